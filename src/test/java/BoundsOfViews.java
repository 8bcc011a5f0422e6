import java.util.function.BiConsumer;

/** The boundaries that promises 10 to 30 name: what a post tells of itself. */
final class BoundsOfViews {
    private static final int NONE = RiddlePost.NONE;
    private static final int TOO_LONG = RiddlePost.TOO_LONG;
    private static final int NOTHING = RiddlePost.NOTHING;
    private static final int ANSWER = RiddlePost.ANSWER;
    private static final int REFERENCE = RiddlePost.REFERENCE;
    private static final int REFUSAL = RiddlePost.REFUSAL;

    private BoundsOfViews() {
    }

    static void all(Sentences sentences) {
        zones(sentences);
        riddles(sentences);
        truthOf(sentences);
        rememberedOf(sentences);
        ticksLeftOf(sentences);
        referralLeft(sentences);
        wholeMemory(sentences);
        isOutOfDate(sentences);
        accounts(sentences);
        meanQuestions(sentences);
        wouldSolve(sentences);
        costOf(sentences);
        ticksUntilTruth(sentences);
    }

    /** The last allowed and the first refused riddles of a call that changes nothing, on several posts. */
    private static void riddleBounds(Sentences sentences, String place, String call,
            BiConsumer<RiddlePost, Integer> asking) {
        sentences.test(place, "- `riddle`: 0 to 35", check -> {
            check.passes(call + "(0)", () -> asking.accept(new RiddlePost(), 0));
            check.passes(call + "(35)", () -> asking.accept(new RiddlePost(), 35));
            check.passes(call + "(0) of a full memory", () -> asking.accept(Posts.fullMemory(), 0));
            check.passes(call + "(35) of a full memory", () -> asking.accept(Posts.fullMemory(), 35));
            Posts.asksOnly(check, call + "(0)", Posts::busy, post -> asking.accept(post, 0));
            Posts.asksOnly(check, call + "(35)", Posts::busy, post -> asking.accept(post, 35));
        });
        sentences.test(place, "Throws `IndexOutOfBoundsException` if there is no such riddle", check -> {
            RiddlePost post = Posts.busy();
            Posts.refusesOutside(check, call, 0, 35, Posts.INDEX, riddle -> asking.accept(post, riddle));
            RiddlePost full = Posts.fullMemory();
            Posts.refusesOutside(check, call + " of a full memory", 0, 35, Posts.INDEX,
                    riddle -> asking.accept(full, riddle));
        });
    }

    private static void zoneBounds(Sentences sentences, String place, String call,
            BiConsumer<RiddlePost, Integer> asking) {
        sentences.test(place, "- `zone`: 0 to 5", check -> {
            check.passes(call + "(0)", () -> asking.accept(new RiddlePost(), 0));
            check.passes(call + "(5)", () -> asking.accept(new RiddlePost(), 5));
            Posts.asksOnly(check, call + "(0)", Posts::busy, post -> asking.accept(post, 0));
            Posts.asksOnly(check, call + "(5)", Posts::busy, post -> asking.accept(post, 5));
        });
        sentences.test(place, "Throws `IndexOutOfBoundsException` if there is no such zone", check -> {
            RiddlePost post = Posts.busy();
            Posts.refusesOutside(check, call, 0, 5, Posts.INDEX, zone -> asking.accept(post, zone));
        });
    }

    // ---- promises 10 to 12

    private static void zones(Sentences sentences) {
        sentences.test("Promise 10", "Returns the time.", check -> {
            for (int time : new int[] {0, 1, 99, 100, 9900, 9998, 9999}) {
                check.same("time()", Posts.at(time).time(), time);
            }
            Posts.asksOnly(check, "time()", Posts::busy, RiddlePost::time);
        });
        sentences.test("Promise 11", "Returns the parent of a zone.", check -> {
            for (int zone = 1; zone < 6; zone++) {
                check.same("in a line", Posts.line().parentOf(zone), zone - 1);
                check.same("at first", new RiddlePost().parentOf(zone), (zone - 1) / 2);
            }
        });
        zoneBounds(sentences, "Promise 11", "parentOf", RiddlePost::parentOf);
        sentences.test("Promise 11", "Returns the parent; NONE for the root.", check -> {
            check.same("the root", Posts.line().parentOf(0), NONE);
            check.same("the first zone that is not the root", Posts.line().parentOf(1), 0);
        });
        sentences.test("Promise 12", "Returns the depth of a zone.", check -> {
            RiddlePost post = Posts.line();
            post.setParent(2, 0);
            for (int zone = 0; zone < 6; zone++) {
                check.same("depthOf(" + zone + ")", post.depthOf(zone), zone < 2 ? zone : zone - 1);
            }
        });
        zoneBounds(sentences, "Promise 12", "depthOf", RiddlePost::depthOf);
        sentences.test("Promise 12", "Returns the depth.", check -> {
            check.same("the least", new RiddlePost().depthOf(0), 0);
            check.same("the greatest", Posts.line().depthOf(5), 5);
        });
    }

    // ---- promises 13, 14

    private static void riddles(Sentences sentences) {
        sentences.test("Promise 13", "Returns what a riddle has in its zone.", check -> {
            RiddlePost post = Posts.chain(1);
            post.solve(0);
            post.solve(2);
            post.takeAway(1);
            post.setAnswer(2, 0, 1);
            check.same("not the answer that is remembered", post.kindOf(1), NOTHING);
            check.same("not the refusal that is remembered", post.kindOf(2), ANSWER);
        });
        riddleBounds(sentences, "Promise 13", "kindOf", RiddlePost::kindOf);
        sentences.test("Promise 13", "Returns NOTHING, ANSWER or REFERENCE.", check -> {
            RiddlePost post = Posts.chain(1);
            check.same("a reference", post.kindOf(0), REFERENCE);
            check.same("an answer", post.kindOf(1), ANSWER);
            check.same("nothing", post.kindOf(2), NOTHING);
            post.solve(2);
            check.same("nothing, not the refusal", post.kindOf(2), NOTHING);
        });
        sentences.test("Promise 14",
                "Returns the answer of a riddle, or the riddle to which it refers, as it is in its zone.", check -> {
            RiddlePost post = Posts.chain(1);
            post.solve(0);
            post.setAnswer(1, 99, 1);
            post.setReference(0, 35, 1);
            check.same("not the answer that is remembered", post.valueOf(1), 99);
            check.same("not the reference that is remembered", post.valueOf(0), 35);
        });
        riddleBounds(sentences, "Promise 14", "valueOf", RiddlePost::valueOf);
        sentences.test("Promise 14", "Returns the answer, or the number of the other riddle; NONE if it has nothing.",
                check -> {
            RiddlePost post = new RiddlePost();
            check.same("nothing", post.valueOf(0), NONE);
            post.setAnswer(0, 0, 1);
            check.same("the lowest answer", post.valueOf(0), 0);
            post.setAnswer(0, 99, 1);
            check.same("the highest answer", post.valueOf(0), 99);
            post.setReference(0, 35, 1);
            check.same("the highest riddle", post.valueOf(0), 35);
            post.setReference(1, 0, 1);
            check.same("the lowest riddle", post.valueOf(1), 0);
            post.takeAway(1);
            check.same("nothing any more", post.valueOf(1), NONE);
        });
    }

    // ---- promise 15

    private static void truthOf(Sentences sentences) {
        String place = "Promise 15";
        sentences.test(place, "Returns the result that solving a riddle would have with an empty memory.", check -> {
            RiddlePost post = Posts.chain(6);
            post.solve(0);
            for (int riddle = 0; riddle < 6; riddle++) {
                post.setReference(riddle, 35 - riddle, 1);
            }
            post.setAnswer(35, 5, 1);
            check.same("none of a full chain that is remembered", post.truthOf(0), 5);
            check.same("but solving takes it", post.wouldSolve(0), 66);
            check.same("to nothing", post.truthOf(1), NONE);
            RiddlePost refused = Posts.fullMemory();
            refused.setAnswer(35, 99, 1);
            check.same("no refusal that is remembered", refused.truthOf(35), 99);
        });
        riddleBounds(sentences, place, "truthOf", RiddlePost::truthOf);
        sentences.test(place, "Returns the answer; NONE; or TOO_LONG.", check -> {
            for (int references = 0; references <= 9; references++) {
                check.same("references: " + references, Posts.chain(references).truthOf(0),
                        references <= 6 ? 66 : TOO_LONG);
                RiddlePost nothing = Posts.chain(references);
                nothing.takeAway(references);
                check.same("to nothing: " + references, nothing.truthOf(0), references <= 6 ? NONE : TOO_LONG);
            }
            RiddlePost circle = new RiddlePost();
            circle.setReference(0, 35, 9);
            circle.setReference(35, 0, 9);
            check.same("a circle", circle.truthOf(35), TOO_LONG);
        });
    }

    // ---- promises 16 to 18

    private static void rememberedOf(Sentences sentences) {
        sentences.test("Promise 16", "Returns what is remembered of a riddle.", check -> {
            RiddlePost post = Posts.chain(1);
            check.same("not what it has", post.rememberedOf(0), NOTHING);
            post.solve(0);
            post.takeAway(0);
            post.setReference(1, 2, 9);
            check.same("when it has nothing any more", post.rememberedOf(0), REFERENCE);
            check.same("when it has something else", post.rememberedOf(1), ANSWER);
        });
        riddleBounds(sentences, "Promise 16", "rememberedOf", RiddlePost::rememberedOf);
        sentences.test("Promise 16", "Returns NOTHING, ANSWER, REFERENCE or REFUSAL.", check -> {
            RiddlePost post = Posts.chain(1);
            post.solve(0);
            post.solve(35);
            check.same("a reference", post.rememberedOf(0), REFERENCE);
            check.same("an answer", post.rememberedOf(1), ANSWER);
            check.same("a refusal", post.rememberedOf(35), REFUSAL);
            check.same("nothing", post.rememberedOf(34), NOTHING);
            post.pass(4);
            check.same("a refusal in its last tick", post.rememberedOf(35), REFUSAL);
            post.pass(1);
            check.same("nothing in the moment of its end", post.rememberedOf(35), NOTHING);
            post.pass(44);
            check.same("a reference in its last tick", post.rememberedOf(0), REFERENCE);
            check.same("an answer in its last tick", post.rememberedOf(1), ANSWER);
            post.pass(1);
            check.same("no reference in the moment of its end", post.rememberedOf(0), NOTHING);
            check.same("no answer in the moment of its end", post.rememberedOf(1), NOTHING);
        });
    }

    private static void ticksLeftOf(Sentences sentences) {
        sentences.test("Promise 17", "Returns in how many ticks the reply that is remembered of a riddle is forgotten.",
                check -> {
            for (int age : new int[] {1, 2, 99}) {
                RiddlePost post = new RiddlePost();
                post.setAnswer(35, 0, age);
                post.solve(35);
                for (int left = age; left >= 1; left--) {
                    check.same("ticksLeftOf(35)", post.ticksLeftOf(35), left);
                    post.pass(1);
                }
                check.same("forgotten then", post.rememberedOf(35), NOTHING);
            }
        });
        riddleBounds(sentences, "Promise 17", "ticksLeftOf", RiddlePost::ticksLeftOf);
        sentences.test("Promise 17", "Returns the number of ticks, at least 1; NONE if nothing is remembered of it.",
                check -> {
            RiddlePost post = new RiddlePost();
            post.setAnswer(35, 0, 99);
            check.same("nothing remembered", post.ticksLeftOf(35), NONE);
            post.solve(35);
            check.same("the most", post.ticksLeftOf(35), 99);
            post.pass(98);
            check.same("the least", post.ticksLeftOf(35), 1);
            post.pass(1);
            check.same("forgotten", post.ticksLeftOf(35), NONE);
            post.solve(0);
            post.forget(0);
            check.same("forgotten by forget()", post.ticksLeftOf(0), NONE);
        });
    }

    private static void referralLeft(Sentences sentences) {
        sentences.test("Promise 18", "Returns in how many ticks the referral to a zone is forgotten.", check -> {
            for (int age : new int[] {1, 2, 99}) {
                RiddlePost post = Posts.line();
                post.setAges(4, age, 9);
                post.solve(35);
                for (int left = age; left >= 1; left--) {
                    check.same("referralLeft(5)", post.referralLeft(5), left);
                    post.pass(1);
                }
                check.same("forgotten then", post.referralLeft(5), NONE);
            }
        });
        zoneBounds(sentences, "Promise 18", "referralLeft", RiddlePost::referralLeft);
        sentences.test("Promise 18", "Returns the number of ticks, at least 1; NONE if none is remembered,",
                check -> {
            RiddlePost post = new RiddlePost();
            post.setAges(0, 99, 9);
            for (int zone = 1; zone < 6; zone++) {
                check.same("none remembered", post.referralLeft(zone), NONE);
            }
            post.solve(6);
            check.same("the most", post.referralLeft(1), 99);
            check.same("none to the others", post.referralLeft(2), NONE);
            post.pass(98);
            check.same("the least", post.referralLeft(1), 1);
            post.pass(1);
            check.same("forgotten", post.referralLeft(1), NONE);
        });
        sentences.test("Promise 18", "or if it is the root.", check -> {
            check.same("of an empty memory", new RiddlePost().referralLeft(0), NONE);
            check.same("of a full memory", Posts.fullMemory().referralLeft(0), NONE);
        });
    }

    // ---- promises 19 to 21

    private static void wholeMemory(Sentences sentences) {
        sentences.test("Promise 19", "Returns the number of referrals and replies that are remembered, told one by one.",
                check -> {
            check.same("the empty memory", new RiddlePost().remembered(), 0);
            check.same("the full memory", Posts.fullMemory().remembered(), 41);
            RiddlePost post = Posts.line();
            post.solve(30);
            check.same("five referrals and a reply", post.remembered(), 6);
            Posts.asksOnly(check, "remembered()", Posts::busy, RiddlePost::remembered);
        });
        sentences.test("Promise 20", "Returns the same, told as the number of times that something was remembered so "
                + "far, minus the number of times that something was forgotten.", BoundsOfViews::byAccount);
        sentences.test("Promise 21", "Returns in how many ticks something is forgotten next;", check -> {
            RiddlePost post = Posts.chain(0);
            post.setAnswer(0, 1, 99);
            post.solve(0);
            check.same("the most", post.ticksUntilForgetting(), 99);
            post.solve(6);
            check.same("a refusal first", post.ticksUntilForgetting(), 5);
            post.forget(6);
            check.same("a referral first", post.ticksUntilForgetting(), 20);
            post.pass(19);
            check.same("the least", post.ticksUntilForgetting(), 1);
            post.pass(1);
            check.same("the answer at last", post.ticksUntilForgetting(), 79);
            RiddlePost last = Posts.at(9999);
            last.solve(35);
            check.same("beyond the last time", last.ticksUntilForgetting(), 5);
        });
        sentences.test("Promise 21", "NONE if nothing is remembered.", check -> {
            RiddlePost post = new RiddlePost();
            check.same("the empty memory", post.ticksUntilForgetting(), NONE);
            post.setAnswer(0, 1, 99);
            check.same("what a riddle has is not remembered", post.ticksUntilForgetting(), NONE);
            post.solve(0);
            post.forget(0);
            check.same("all forgotten", post.ticksUntilForgetting(), NONE);
            post.undo();
            post.pass(99);
            check.same("all ended", post.ticksUntilForgetting(), NONE);
        });
    }

    private static void byAccount(Check check) {
        check.same("the empty memory", new RiddlePost().rememberedByAccount(), 0);
        RiddlePost post = Posts.fullMemory();
        check.same("the full memory", post.rememberedByAccount(), 41);
        post.forget(35);
        check.same("one forgotten", post.rememberedByAccount(), 40);
        post.solve(35);
        check.same("and remembered again", post.rememberedByAccount(), 41);
        post.solve(35);
        check.same("a hit is no remembering", post.rememberedByAccount(), 41);
        post.pass(5);
        check.same("the replies ended", post.rememberedByAccount(), 5);
        post.undo();
        check.same("that is undone", post.rememberedByAccount(), 41);
        post.pass(20);
        check.same("all ended", post.rememberedByAccount(), 0);
        Posts.write(post, "?0,+4,?0,+1,?0");
        post.runActs();
        check.same("after acts", post.rememberedByAccount(), post.remembered());
        check.same("one reply", post.rememberedByAccount(), 1);
    }

    // ---- promise 22

    private static void isOutOfDate(Sentences sentences) {
        String place = "Promise 22";
        sentences.test(place, "Tells whether the reply that is remembered of a riddle is out of date: it is not what "
                + "its zone would reply now", BoundsOfViews::eachKindAgainstEach);
        sentences.test(place, "(ages do not matter).", check -> {
            RiddlePost post = Posts.chain(1);
            post.solve(0);
            post.solve(2);
            post.setReference(0, 1, 1);
            post.setAnswer(1, 66, 99);
            post.setAges(0, 1, 99);
            post.pass(4);
            check.same("a reference", post.isOutOfDate(0), false);
            check.same("an answer", post.isOutOfDate(1), false);
            check.same("a refusal", post.isOutOfDate(2), false);
        });
        riddleBounds(sentences, place, "isOutOfDate", RiddlePost::isOutOfDate);
        sentences.test(place, "Returns whether it is; false if nothing is remembered of it.", check -> {
            RiddlePost post = new RiddlePost();
            check.same("nothing remembered, nothing had", post.isOutOfDate(0), false);
            post.setAnswer(0, 1, 1);
            check.same("nothing remembered of an answer", post.isOutOfDate(0), false);
            post.solve(0);
            post.setAnswer(0, 2, 1);
            check.same("out of date in the last tick", post.isOutOfDate(0), true);
            post.pass(1);
            check.same("forgotten", post.isOutOfDate(0), false);
            post.solve(1);
            post.setReference(1, 0, 1);
            check.same("a refusal out of date", post.isOutOfDate(1), true);
            post.forget(1);
            check.same("forgotten by forget()", post.isOutOfDate(1), false);
        });
    }

    /** What a riddle has: 0 nothing, 1 and 2 answers, 3 and 4 references with the same numbers. */
    private static void give(RiddlePost post, int what) {
        if (what == 1 || what == 2) {
            post.setAnswer(0, what, 9);
        } else if (what == 3 || what == 4) {
            post.setReference(0, what - 2, 9);
        } else if (post.kindOf(0) != NOTHING) {
            post.takeAway(0);
        }
    }

    private static void eachKindAgainstEach(Check check) {
        for (int before = 0; before <= 4; before++) {
            for (int after = 0; after <= 4; after++) {
                RiddlePost post = new RiddlePost();
                give(post, before);
                post.solve(0);
                give(post, after);
                check.same("kind " + before + " against " + after, post.isOutOfDate(0), before != after);
            }
        }
    }

    // ---- promises 23 to 26

    private static void accounts(Sentences sentences) {
        sentences.test("Promise 23", "Returns the number of riddles that were to be solved so far, those to which "
                + "references led not counted.", check -> {
            check.same("none", new RiddlePost().solved(), 0);
            RiddlePost post = Posts.chain(7);
            post.solve(0);
            check.same("one that is too long", post.solved(), 1);
            post.solve(0);
            check.same("by hits", post.solved(), 2);
            post.solve(35);
            check.same("a refusal", post.solved(), 3);
            Posts.write(post, "?0,?1,?2");
            post.runActs();
            check.same("by acts", post.solved(), 6);
            post.undo();
            check.same("undone", post.solved(), 3);
            check.same("not those of forecasts", post.wouldSolve(1) - 66 + post.solved(), 3);
        });
        sentences.test("Promise 24", "Returns the number of questions so far.", check -> {
            check.same("none", new RiddlePost().questions(), 0);
            check.same("of all riddles", Posts.fullMemory().questions(), 41);
            RiddlePost post = Posts.line();
            post.solve(35);
            check.same("of the longest way", post.questions(), 6);
            post.pass(99);
            post.solve(35);
            check.same("and again", post.questions(), 12);
            post.solve(35);
            check.same("a hit costs none", post.questions(), 12);
            post.undo();
            post.undo();
            check.same("undone", post.questions(), 6);
        });
        sentences.test("Promise 25", "Returns the number of hits so far.", check -> {
            check.same("none", new RiddlePost().hits(), 0);
            RiddlePost post = Posts.chain(7);
            post.solve(0);
            check.same("none by asking", post.hits(), 0);
            post.solve(0);
            check.same("a long chain", post.hits(), 7);
            post.undo();
            check.same("undone", post.hits(), 0);
            RiddlePost refused = Posts.fullMemory();
            refused.solve(0);
            check.same("a refusal", refused.hits(), 1);
        });
        sentences.test("Promise 26",
                "Returns the number of questions that a zone was asked so far, for the way or for a riddle.",
                BoundsOfViews::questionsToZones);
    }

    private static void questionsToZones(Check check) {
        Posts.bounds(check, "questionsTo", 0, 5, Posts.INDEX, zone -> Posts.busy().questionsTo(zone));
        RiddlePost post = Posts.line();
        check.same("none", post.questionsTo(0) + post.questionsTo(5), 0);
        post.solve(35);
        check.same("the root for the way", post.questionsTo(0), 1);
        check.same("zone 4 for the way", post.questionsTo(4), 1);
        check.same("zone 5 for the riddle", post.questionsTo(5), 1);
        post.solve(0);
        check.same("the root for a riddle", post.questionsTo(0), 2);
        post.solve(29);
        check.same("zone 4 for a riddle", post.questionsTo(4), 2);
        post.solve(35);
        check.same("none by a hit", post.questionsTo(5), 1);
        int sum = 0;
        for (int zone = 0; zone < 6; zone++) {
            sum += post.questionsTo(zone);
        }
        check.same("all of them together", sum, post.questions());
        Posts.asksOnly(check, "questionsTo(5)", Posts::busy, asked -> asked.questionsTo(5));
    }

    // ---- promise 27

    private static void meanQuestions(Sentences sentences) {
        sentences.test("Promise 27", "Returns the mean number of questions for a riddle that was to be solved, as a "
                + "double;", check -> {
            RiddlePost post = Posts.line();
            post.solve(35);
            check.sameDouble("the most for one", post.meanQuestions(), 6.0);
            post.solve(35);
            check.sameDouble("6 for 2", post.meanQuestions(), 3.0);
            post.solve(35);
            post.solve(35);
            check.sameDouble("6 for 4", post.meanQuestions(), 1.5);
            post.solve(35);
            post.solve(35);
            post.solve(35);
            check.sameDouble("6 for 7", post.meanQuestions(), 6.0 / 7.0);
            check.sameDouble("less than one", Posts.hitsOnly(400).meanQuestions(), 1.0 / 400.0);
        });
        sentences.test("Promise 27", "0.0 if none was.", check -> {
            RiddlePost post = new RiddlePost();
            check.sameDouble("a new object", post.meanQuestions(), 0.0);
            post.solve(0);
            post.undo();
            check.sameDouble("when undone", post.meanQuestions(), 0.0);
        });
    }

    // ---- promise 28

    private static void wouldSolve(Sentences sentences) {
        String place = "Promise 28";
        sentences.test(place, "Returns the result that solving a riddle would have now.", check -> {
            for (int passed : new int[] {0, 1, 29, 30, 49, 50}) {
                for (int riddle = 0; riddle < 9; riddle++) {
                    RiddlePost post = changedChain(passed);
                    int would = post.wouldSolve(riddle);
                    check.same("wouldSolve(" + riddle + ") after ticks: " + passed, would, post.solve(riddle));
                }
            }
        });
        riddleBounds(sentences, place, "wouldSolve", RiddlePost::wouldSolve);
        sentences.test(place, "Returns the answer; NONE; or TOO_LONG.", check -> {
            for (int references = 0; references <= 9; references++) {
                RiddlePost post = Posts.chain(references);
                int due = references <= 6 ? 66 : TOO_LONG;
                check.same("references: " + references, post.wouldSolve(0), due);
                post.solve(0);
                check.same("remembered references: " + references, post.wouldSolve(0), due);
                RiddlePost nothing = Posts.chain(references);
                nothing.takeAway(references);
                check.same("to nothing: " + references, nothing.wouldSolve(0), references <= 6 ? NONE : TOO_LONG);
            }
            check.same("a refusal that is remembered", Posts.fullMemory().wouldSolve(35), NONE);
        });
    }

    /** A chain of eight that was solved, changed, and left alone for some ticks. */
    private static RiddlePost changedChain(int ticks) {
        RiddlePost post = Posts.chain(8);
        post.setAnswer(8, 66, 30);
        post.setReference(4, 5, 30);
        post.solve(0);
        post.solve(5);
        post.setAnswer(2, 7, 9);
        post.takeAway(5);
        post.setReference(8, 0, 9);
        if (ticks > 0) {
            post.pass(ticks);
        }
        return post;
    }

    // ---- promise 29

    private static void costOf(Sentences sentences) {
        String place = "Promise 29";
        sentences.test(place, "Returns how many questions solving a riddle would cost now.", check -> {
            for (int passed : new int[] {0, 1, 19, 20, 29, 30, 49, 50}) {
                for (int riddle = 0; riddle < 9; riddle++) {
                    RiddlePost post = changedChain(passed);
                    int cost = post.costOf(riddle);
                    int before = post.questions();
                    post.solve(riddle);
                    check.same("costOf(" + riddle + ") after ticks: " + passed, cost, post.questions() - before);
                }
            }
        });
        riddleBounds(sentences, place, "costOf", RiddlePost::costOf);
        sentences.test(place, "Returns the number of questions.", check -> {
            check.same("the least", Posts.fullMemory().costOf(35), 0);
            check.same("the least that is asked", new RiddlePost().costOf(0), 1);
            check.same("the longest way", Posts.line().costOf(35), 6);
            check.same("the most", widestChain(7).costOf(35), 12);
            check.same("six references", widestChain(6).costOf(35), 12);
            check.same("five references", widestChain(5).costOf(35), 11);
            RiddlePost widest = widestChain(7);
            widest.solve(35);
            check.same("the most, when it is done", widest.questions(), 12);
            check.same("and then", widest.costOf(35), 0);
            check.same("the seventh reference would cost one", widest.costOf(28), 1);
            check.same("a circle asks each riddle once", circle().costOf(6), 4);
            check.same("a circle that is known", solvedCircle().costOf(6), 0);
        });
    }

    /** References from 35 to 34 and so on, the given number of them, in zones that stand in a line. */
    private static RiddlePost widestChain(int references) {
        RiddlePost post = Posts.line();
        for (int riddle = 35; riddle > 35 - references; riddle--) {
            post.setReference(riddle, riddle - 1, 50);
        }
        return post;
    }

    private static RiddlePost circle() {
        RiddlePost post = new RiddlePost();
        post.setReference(6, 12, 9);
        post.setReference(12, 6, 9);
        return post;
    }

    private static RiddlePost solvedCircle() {
        RiddlePost post = circle();
        post.solve(12);
        return post;
    }

    // ---- promise 30

    private static void ticksUntilTruth(Sentences sentences) {
        String place = "Promise 30";
        sentences.test(place, "Tells in how many ticks solving a riddle would have the result that truthOf() tells "
                + "now, if nothing else happens.", BoundsOfViews::waitTickByTick);
        riddleBounds(sentences, place, "ticksUntilTruth", RiddlePost::ticksUntilTruth);
        sentences.test(place, "Returns the number of ticks, 0 if it would now.", check -> {
            check.same("a new object", new RiddlePost().ticksUntilTruth(0), 0);
            check.same("a circle", circle().ticksUntilTruth(6), 0);
            for (int age : new int[] {1, 2, 99}) {
                RiddlePost post = new RiddlePost();
                post.setAnswer(35, 1, age);
                post.solve(35);
                check.same("as it is", post.ticksUntilTruth(35), 0);
                post.setAnswer(35, 2, age);
                check.same("another answer", post.ticksUntilTruth(35), age);
                post.takeAway(35);
                check.same("no answer", post.ticksUntilTruth(35), age);
                post.setReference(35, 35 - 1, 9);
                post.setReference(35 - 1, 35, 9);
                check.same("too long", post.ticksUntilTruth(35), age);
                post.setAnswer(35, 1, 1);
                check.same("the same again, with another age", post.ticksUntilTruth(35), 0);
            }
            RiddlePost refused = Posts.fullMemory();
            refused.setAnswer(0, 1, 1);
            check.same("a refusal", refused.ticksUntilTruth(0), 5);
            refused.pass(4);
            check.same("a refusal in its last tick", refused.ticksUntilTruth(0), 1);
            refused.pass(1);
            check.same("a refusal that has ended now", refused.ticksUntilTruth(0), 0);
        });
    }

    private static void waitTickByTick(Check check) {
        for (int riddle = 0; riddle < 9; riddle++) {
            RiddlePost post = changedChain(0);
            int truth = post.truthOf(riddle);
            int due = 0;
            while (post.wouldSolve(riddle) != truth && due < 100) {
                post.pass(1);
                due++;
            }
            check.same("ticksUntilTruth(" + riddle + ")", changedChain(0).ticksUntilTruth(riddle), due);
        }
        RiddlePost chance = new RiddlePost();
        chance.setReference(0, 1, 40);
        chance.setAnswer(1, 5, 10);
        chance.solve(0);
        chance.setAnswer(0, 7, 9);
        check.same("when the old reference ends", chance.ticksUntilTruth(0), 40);
        chance.setAnswer(1, 7, 9);
        check.same("by chance, when the answer behind it ends", chance.ticksUntilTruth(0), 10);
        chance.setAnswer(0, 5, 9);
        check.same("by chance, now", chance.ticksUntilTruth(0), 0);
    }
}
