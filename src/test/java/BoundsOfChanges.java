/** The boundaries that promises 1 to 9 name: a new object, and the calls that change it. */
final class BoundsOfChanges {
    private static final int NONE = RiddlePost.NONE;
    private static final int TOO_LONG = RiddlePost.TOO_LONG;
    private static final int NOTHING = RiddlePost.NOTHING;
    private static final int ANSWER = RiddlePost.ANSWER;
    private static final int REFERENCE = RiddlePost.REFERENCE;
    private static final int REFUSAL = RiddlePost.REFUSAL;

    private BoundsOfChanges() {
    }

    static void all(Sentences sentences) {
        sentences.test("Promise 1", "Creates zones without any answers, and an empty memory, at the time 0.",
                BoundsOfChanges::newObject);
        setParent(sentences);
        setAges(sentences);
        setAnswer(sentences);
        setReference(sentences);
        takeAway(sentences);
        solve(sentences);
        forget(sentences);
        pass(sentences);
    }

    private static void newObject(Check check) {
        RiddlePost post = new RiddlePost();
        for (int riddle = 0; riddle < 36; riddle++) {
            check.same("kindOf(" + riddle + ")", post.kindOf(riddle), NOTHING);
            check.same("rememberedOf(" + riddle + ")", post.rememberedOf(riddle), NOTHING);
        }
        for (int zone = 0; zone < 6; zone++) {
            check.same("referralLeft(" + zone + ")", post.referralLeft(zone), NONE);
        }
        check.same("remembered", post.remembered(), 0);
        check.same("rememberedByAccount", post.rememberedByAccount(), 0);
        check.same("time", post.time(), 0);
        check.raises("undo", Posts.STATE, post::undo);
        RiddlePost other = new RiddlePost();
        other.solve(35);
        check.same("a new object shares nothing with another", post.remembered(), 0);
    }

    // ---- promise 2

    private static void setParent(Sentences sentences) {
        String place = "Promise 2";
        sentences.test(place, "Changes the parent of a zone; nothing is forgotten.",
                BoundsOfChanges::setParentForgetsNothing);
        sentences.test(place, "Undoable.", BoundsOfChanges::setParentUndoable);
        sentences.test(place, "- `zone`: 1 to 5", check ->
                Posts.bounds(check, "setParent", 1, 5, Posts.INDEX, zone -> new RiddlePost().setParent(zone, 0)));
        sentences.test(place, "- `parent`: 0 to zone minus 1", BoundsOfChanges::parents);
        sentences.test(place, "Returns the parent before.", BoundsOfChanges::parentBefore);
        sentences.test(place, "Throws `IndexOutOfBoundsException` if there is no such zone,", check ->
                Posts.refusesOutside(check, "setParent", 0, 5, Posts.INDEX,
                        zone -> new RiddlePost().setParent(zone, 0)));
        sentences.test(place, "or if it is the root", check -> {
            for (int parent = -1; parent <= 5; parent++) {
                int above = parent;
                check.raises("setParent(0, " + parent + ")", Posts.INDEX, () -> new RiddlePost().setParent(0, above));
            }
        });
        sentences.test(place, "Throws `IllegalArgumentException` if parent is out of range",
                BoundsOfChanges::noParents);
    }

    private static void setParentForgetsNothing(Check check) {
        RiddlePost post = Posts.fullMemory();
        for (int zone = 1; zone < 6; zone++) {
            post.setParent(zone, zone - 1);
            post.setParent(zone, 0);
        }
        check.same("remembered", post.remembered(), 41);
        check.same("rememberedByAccount", post.rememberedByAccount(), 41);
        for (int zone = 1; zone < 6; zone++) {
            check.same("referralLeft(" + zone + ")", post.referralLeft(zone), 20);
        }
        check.same("ticksLeftOf", post.ticksLeftOf(35), 5);
        check.same("parentOf", post.parentOf(5), 0);
    }

    private static void setParentUndoable(Check check) {
        for (int parent = 0; parent < 5; parent++) {
            int above = parent;
            Posts.undoable(check, "setParent(5, " + parent + ")", Posts::busy, post -> post.setParent(5, above));
            Posts.undoable(check, "setParent(5, " + parent + ")", RiddlePost::new, post -> post.setParent(5, above));
        }
    }

    private static void parents(Check check) {
        for (int zone = 1; zone < 6; zone++) {
            for (int parent = 0; parent < zone; parent++) {
                RiddlePost post = new RiddlePost();
                post.setParent(zone, parent);
                check.same("parentOf(" + zone + ")", post.parentOf(zone), parent);
                check.same("depthOf(" + zone + ")", post.depthOf(zone), post.depthOf(parent) + 1);
            }
        }
    }

    private static void parentBefore(Check check) {
        int[] atFirst = {NONE, 0, 0, 1, 1, 2};
        for (int zone = 1; zone < 6; zone++) {
            RiddlePost post = new RiddlePost();
            check.same("at first", post.setParent(zone, zone - 1), atFirst[zone]);
            check.same("the highest before", post.setParent(zone, 0), zone - 1);
            check.same("the lowest before", post.setParent(zone, 0), 0);
        }
    }

    private static void noParents(Check check) {
        for (int zone = 1; zone < 6; zone++) {
            int child = zone;
            Posts.refusesOutside(check, "setParent of " + zone + " to", 0, zone - 1, Posts.ARGUMENT,
                    parent -> new RiddlePost().setParent(child, parent));
        }
    }

    // ---- promise 3

    private static void setAges(Sentences sentences) {
        String place = "Promise 3";
        sentences.test(place, "Changes the ages of a zone; what is remembered keeps its end.",
                BoundsOfChanges::setAgesKeepsEnds);
        sentences.test(place, "Undoable.", BoundsOfChanges::setAgesUndoable);
        sentences.test(place, "- `zone`: 0 to 5", check ->
                Posts.bounds(check, "setAges", 0, 5, Posts.INDEX, zone -> new RiddlePost().setAges(zone, 9, 9)));
        sentences.test(place, "- `referrals`: 1 to 99", BoundsOfChanges::agesForReferrals);
        sentences.test(place, "- `refusals`: 1 to 99", BoundsOfChanges::agesForRefusals);
        sentences.test(place, "Returns the age for referrals before.", BoundsOfChanges::ageBefore);
        sentences.test(place, "Throws `IndexOutOfBoundsException` if there is no such zone", check ->
                Posts.refusesOutside(check, "setAges", 0, 5, Posts.INDEX,
                        zone -> new RiddlePost().setAges(zone, 9, 9)));
        sentences.test(place, "Throws `IllegalArgumentException` if an age is out of range", check -> {
            Posts.refusesOutside(check, "setAges, referrals", 1, 99, Posts.ARGUMENT,
                    age -> new RiddlePost().setAges(5, age, 9));
            Posts.refusesOutside(check, "setAges, refusals", 1, 99, Posts.ARGUMENT,
                    age -> new RiddlePost().setAges(0, 9, age));
            Posts.refusesOutside(check, "setAges, both", 1, 99, Posts.ARGUMENT,
                    age -> new RiddlePost().setAges(1, age, age));
        });
    }

    private static void setAgesKeepsEnds(Check check) {
        for (int age : new int[] {1, 99}) {
            RiddlePost post = Posts.fullMemory();
            for (int zone = 0; zone < 6; zone++) {
                post.setAges(zone, age, age);
            }
            for (int zone = 1; zone < 6; zone++) {
                check.same("referralLeft(" + zone + ")", post.referralLeft(zone), 20);
            }
            for (int riddle = 0; riddle < 36; riddle++) {
                check.same("ticksLeftOf(" + riddle + ")", post.ticksLeftOf(riddle), 5);
            }
            check.same("the tick before the refusals end", post.pass(4), 0);
            check.same("they end as before", post.pass(1), 36);
            check.same("the tick before the referrals end", post.pass(14), 0);
            check.same("they end as before", post.pass(1), 5);
        }
    }

    private static void setAgesUndoable(Check check) {
        Posts.undoable(check, "setAges", Posts::busy, post -> post.setAges(0, 1, 99));
        RiddlePost post = new RiddlePost();
        post.setAges(5, 1, 99);
        post.undo();
        post.solve(30);
        check.same("the age for refusals is undone", post.ticksLeftOf(30), 5);
        check.same("the age for referrals is undone", post.setAges(5, 9, 9), 20);
    }

    private static void agesForReferrals(Check check) {
        for (int age : new int[] {1, 99}) {
            RiddlePost post = new RiddlePost();
            post.setAges(2, age, 9);
            post.solve(35);
            check.same("the referral by zone 2", post.referralLeft(5), age);
            check.same("the referral by the root", post.referralLeft(2), 20);
        }
    }

    private static void agesForRefusals(Check check) {
        for (int age : new int[] {1, 99}) {
            RiddlePost post = new RiddlePost();
            post.setAges(5, 9, age);
            post.solve(35);
            post.solve(17);
            check.same("the refusal of zone 5", post.ticksLeftOf(35), age);
            check.same("the refusal of zone 2", post.ticksLeftOf(17), 5);
        }
    }

    private static void ageBefore(Check check) {
        for (int zone = 0; zone < 6; zone++) {
            RiddlePost post = new RiddlePost();
            check.same("at first", post.setAges(zone, 1, 98), 20);
            check.same("the lowest before", post.setAges(zone, 99, 2), 1);
            check.same("the highest before", post.setAges(zone, 99, 2), 99);
        }
    }

    // ---- promise 4

    private static void setAnswer(Sentences sentences) {
        String place = "Promise 4";
        sentences.test(place, "Gives a riddle an answer, in place of what it had.", BoundsOfChanges::answerInPlace);
        sentences.test(place, "Undoable.", check -> {
            Posts.undoable(check, "setAnswer of nothing", Posts::busy, post -> post.setAnswer(35, 0, 1));
            Posts.undoable(check, "setAnswer of an answer", Posts::busy, post -> post.setAnswer(30, 99, 99));
            Posts.undoable(check, "setAnswer of a reference", Posts::busy, post -> post.setAnswer(0, 30, 40));
        });
        sentences.test(place, "- `riddle`: 0 to 35", check ->
                Posts.bounds(check, "setAnswer", 0, 35, Posts.INDEX, riddle -> new RiddlePost().setAnswer(riddle, 9, 9)));
        sentences.test(place, "- `answer`: 0 to 99", check -> {
            Posts.bounds(check, "setAnswer, answer", 0, 99, Posts.ARGUMENT,
                    answer -> new RiddlePost().setAnswer(0, answer, 9));
            for (int answer : new int[] {0, 99}) {
                RiddlePost post = new RiddlePost();
                post.setAnswer(35, answer, 9);
                check.same("valueOf", post.valueOf(35), answer);
            }
        });
        sentences.test(place, "- `age`: 1 to 99", check -> {
            Posts.bounds(check, "setAnswer, age", 1, 99, Posts.ARGUMENT,
                    age -> new RiddlePost().setAnswer(0, 9, age));
            for (int age : new int[] {1, 99}) {
                RiddlePost post = new RiddlePost();
                post.setAnswer(35, 9, age);
                post.solve(35);
                check.same("ticksLeftOf", post.ticksLeftOf(35), age);
            }
        });
        sentences.test(place, "Returns what it had: NOTHING, ANSWER or REFERENCE.", check -> {
            RiddlePost post = new RiddlePost();
            check.same("it had nothing", post.setAnswer(35, 0, 1), NOTHING);
            check.same("it had an answer", post.setAnswer(35, 0, 1), ANSWER);
            post.setReference(35, 0, 1);
            check.same("it had a reference", post.setAnswer(35, 0, 1), REFERENCE);
            post.takeAway(35);
            check.same("it had nothing any more", post.setAnswer(35, 0, 1), NOTHING);
            post.solve(34);
            check.same("a remembered refusal is not what it had", post.setAnswer(34, 0, 1), NOTHING);
        });
        sentences.test(place, "Throws `IndexOutOfBoundsException` if there is no such riddle", check ->
                Posts.refusesOutside(check, "setAnswer", 0, 35, Posts.INDEX,
                        riddle -> new RiddlePost().setAnswer(riddle, 0, 1)));
        sentences.test(place, "Throws `IllegalArgumentException` if answer", check ->
                Posts.refusesOutside(check, "setAnswer, answer", 0, 99, Posts.ARGUMENT,
                        answer -> new RiddlePost().setAnswer(35, answer, 99)));
        sentences.test(place, "or age is out of range", check ->
                Posts.refusesOutside(check, "setAnswer, age", 1, 99, Posts.ARGUMENT,
                        age -> new RiddlePost().setAnswer(35, 99, age)));
    }

    private static void answerInPlace(Check check) {
        RiddlePost post = Posts.chain(1);
        post.setAnswer(0, 99, 1);
        check.same("in place of a reference", post.valueOf(0), 99);
        check.same("it is an answer", post.kindOf(0), ANSWER);
        check.same("it does not lead on", post.solve(0), 99);
        check.same("with its own age", post.ticksLeftOf(0), 1);
        post.setAnswer(1, 0, 99);
        check.same("in place of an answer", post.solve(1), 0);
        check.same("with its own age", post.ticksLeftOf(1), 99);
        post.setAnswer(0, 98, 99);
        check.same("what is remembered stays", post.solve(0), 99);
        check.same("with its end", post.ticksLeftOf(0), 1);
        for (int riddle = 0; riddle < 36; riddle++) {
            RiddlePost one = new RiddlePost();
            one.setAnswer(riddle, 1, 1);
            for (int other = 0; other < 36; other++) {
                check.same("only this riddle has it", one.kindOf(other), other == riddle ? ANSWER : NOTHING);
            }
        }
    }

    // ---- promise 5

    private static void setReference(Sentences sentences) {
        String place = "Promise 5";
        sentences.test(place, "Gives a riddle a reference to another one, in place of what it had.",
                BoundsOfChanges::referenceInPlace);
        sentences.test(place, "Undoable.", check -> {
            Posts.undoable(check, "setReference of nothing", Posts::busy, post -> post.setReference(35, 0, 1));
            Posts.undoable(check, "setReference of an answer", Posts::busy, post -> post.setReference(30, 9, 19));
            Posts.undoable(check, "setReference of a reference", Posts::busy, post -> post.setReference(0, 1, 99));
        });
        sentences.test(place, "- `riddle`: 0 to 35", check ->
                Posts.bounds(check, "setReference", 0, 35, Posts.INDEX,
                        riddle -> new RiddlePost().setReference(riddle, 9, 9)));
        sentences.test(place, "- `other`: 0 to 35", check -> {
            Posts.bounds(check, "setReference to", 0, 35, Posts.INDEX,
                    other -> new RiddlePost().setReference(9, other, 9));
            for (int riddle = 0; riddle < 36; riddle += 35) {
                RiddlePost post = new RiddlePost();
                post.setReference(riddle, 35 - riddle, 9);
                check.same("valueOf(" + riddle + ")", post.valueOf(riddle), 35 - riddle);
            }
        });
        sentences.test(place, "- `age`: 1 to 99", check -> {
            Posts.bounds(check, "setReference, age", 1, 99, Posts.ARGUMENT,
                    age -> new RiddlePost().setReference(0, 35, age));
            for (int age : new int[] {1, 99}) {
                RiddlePost post = new RiddlePost();
                post.setReference(0, 35, age);
                post.solve(0);
                check.same("ticksLeftOf", post.ticksLeftOf(0), age);
            }
        });
        sentences.test(place, "Returns what it had: NOTHING, ANSWER or REFERENCE.", check -> {
            RiddlePost post = new RiddlePost();
            check.same("it had nothing", post.setReference(35, 0, 1), NOTHING);
            check.same("it had a reference", post.setReference(35, 0, 1), REFERENCE);
            post.setAnswer(35, 0, 1);
            check.same("it had an answer", post.setReference(35, 0, 1), ANSWER);
            post.takeAway(35);
            check.same("it had nothing any more", post.setReference(35, 0, 1), NOTHING);
        });
        noReference(sentences, place);
    }

    private static void noReference(Sentences sentences, String place) {
        sentences.test(place, "Throws `IndexOutOfBoundsException` if there is no such riddle,", check ->
                Posts.refusesOutside(check, "setReference", 0, 35, Posts.INDEX,
                        riddle -> new RiddlePost().setReference(riddle, 0, 1)));
        sentences.test(place, "or no such other one", check -> {
            Posts.refusesOutside(check, "setReference to", 0, 35, Posts.INDEX,
                    other -> new RiddlePost().setReference(0, other, 1));
            Posts.refusesOutside(check, "setReference of none to the same", 0, 35, Posts.INDEX,
                    none -> new RiddlePost().setReference(none, none, 1));
        });
        sentences.test(place, "Throws `IllegalArgumentException` if both are the same,", check -> {
            for (int riddle = 0; riddle < 36; riddle++) {
                int same = riddle;
                check.raises("setReference to itself", Posts.ARGUMENT,
                        () -> new RiddlePost().setReference(same, same, 1));
                check.raises("setReference to itself, the age wrong, too", Posts.ARGUMENT,
                        () -> new RiddlePost().setReference(same, same, 100));
                check.passes("setReference to the next one",
                        () -> new RiddlePost().setReference(same, (same + 1) % 36, 1));
            }
        });
        sentences.test(place, "or if age is out of range", check ->
                Posts.refusesOutside(check, "setReference, age", 1, 99, Posts.ARGUMENT,
                        age -> new RiddlePost().setReference(0, 1, age)));
    }

    private static void referenceInPlace(Check check) {
        RiddlePost post = Posts.chain(1);
        post.setReference(1, 35, 1);
        check.same("in place of an answer", post.valueOf(1), 35);
        check.same("it is a reference", post.kindOf(1), REFERENCE);
        check.same("it leads on", post.solve(0), NONE);
        check.same("with its own age", post.ticksLeftOf(1), 1);
        post.setReference(0, 34, 99);
        check.same("in place of a reference", post.valueOf(0), 34);
        check.same("what is remembered stays", post.ticksLeftOf(0), 50);
        check.same("it is followed", post.costOf(0), 0);
        post.setReference(35, 0, 1);
        check.same("a circle is allowed", post.truthOf(1), NONE);
        post.setReference(34, 0, 1);
        check.same("a circle of two is allowed", post.truthOf(0), TOO_LONG);
    }

    // ---- promise 6

    private static void takeAway(Sentences sentences) {
        String place = "Promise 6";
        sentences.test(place, "Takes from a riddle what it has.", check -> {
            RiddlePost post = Posts.chain(1);
            post.solve(0);
            post.takeAway(1);
            check.same("kindOf(1)", post.kindOf(1), NOTHING);
            check.same("valueOf(1)", post.valueOf(1), NONE);
            check.same("truthOf(0)", post.truthOf(0), NONE);
            check.same("what is remembered stays", post.solve(0), 66);
            check.same("the other one stays", post.kindOf(0), REFERENCE);
        });
        sentences.test(place, "Undoable.", check -> {
            Posts.undoable(check, "takeAway of an answer", Posts::busy, post -> post.takeAway(30));
            Posts.undoable(check, "takeAway of a reference", Posts::busy, post -> post.takeAway(0));
        });
        sentences.test(place, "- `riddle`: 0 to 35", check -> {
            for (int riddle : new int[] {0, 35}) {
                RiddlePost post = new RiddlePost();
                post.setAnswer(riddle, 0, 1);
                check.passes("takeAway(" + riddle + ")", () -> post.takeAway(riddle));
                check.same("kindOf(" + riddle + ")", post.kindOf(riddle), NOTHING);
            }
        });
        sentences.test(place, "Returns what it had: ANSWER or REFERENCE.", check -> {
            RiddlePost post = Posts.chain(1);
            check.same("a reference", post.takeAway(0), REFERENCE);
            check.same("an answer", post.takeAway(1), ANSWER);
            post.setAnswer(1, 0, 1);
            check.same("the lowest answer", post.takeAway(1), ANSWER);
        });
        sentences.test(place, "Throws `IndexOutOfBoundsException` if there is no such riddle", check ->
                Posts.refusesOutside(check, "takeAway", 0, 35, Posts.INDEX, riddle -> Posts.busy().takeAway(riddle)));
        sentences.test(place, "Throws `IllegalStateException` if it has nothing", check -> {
            for (int riddle = 0; riddle < 36; riddle++) {
                int none = riddle;
                check.raises("takeAway of a new object", Posts.STATE, () -> new RiddlePost().takeAway(none));
            }
            RiddlePost post = Posts.chain(1);
            post.solve(0);
            post.takeAway(1);
            check.raises("takeAway again", Posts.STATE, () -> post.takeAway(1));
            post.undo();
            check.same("takeAway when undone", post.takeAway(1), ANSWER);
        });
    }

    // ---- promise 7

    private static void solve(Sentences sentences) {
        String place = "Promise 7";
        sentences.test(place, "Solves a riddle.", check -> {
            RiddlePost post = Posts.chain(6);
            check.same("solve", post.solve(0), 66);
            check.same("questions", post.questions(), 8);
            check.same("remembered", post.remembered(), 8);
            check.same("solved", post.solved(), 1);
        });
        sentences.test(place, "Undoable.", check -> {
            Posts.undoable(check, "solve with the longest way", Posts::line, post -> post.solve(35));
            Posts.undoable(check, "solve by a hit", Posts::busy, post -> post.solve(1));
            Posts.undoable(check, "solve nothing", Posts::busy, post -> post.solve(35));
            Posts.undoable(check, "solve too long", () -> Posts.chain(7), post -> post.solve(0));
        });
        sentences.test(place, "- `riddle`: 0 to 35", check -> {
            for (int riddle : new int[] {0, 35}) {
                RiddlePost post = new RiddlePost();
                post.setAnswer(riddle, 11, 1);
                check.same("solve(" + riddle + ")", post.solve(riddle), 11);
                check.same("solve(" + (35 - riddle) + ")", post.solve(35 - riddle), NONE);
            }
        });
        sentences.test(place, "Returns the answer; NONE; or TOO_LONG.", check -> {
            check.same("the answer", Posts.chain(6).solve(0), 66);
            check.same("NONE", new RiddlePost().solve(0), NONE);
            check.same("TOO_LONG", Posts.chain(7).solve(0), TOO_LONG);
        });
        sentences.test(place, "Throws `IndexOutOfBoundsException` if there is no such riddle", check ->
                Posts.refusesOutside(check, "solve", 0, 35, Posts.INDEX, riddle -> Posts.busy().solve(riddle)));
    }

    // ---- promise 8

    private static void forget(Sentences sentences) {
        String place = "Promise 8";
        sentences.test(place, "Forgets what is remembered of a riddle.", check -> {
            RiddlePost post = Posts.fullMemory();
            for (int riddle = 0; riddle < 36; riddle++) {
                post.forget(riddle);
                check.same("rememberedOf(" + riddle + ")", post.rememberedOf(riddle), NOTHING);
                check.same("remembered", post.remembered(), 40 - riddle);
                check.same("rememberedByAccount", post.rememberedByAccount(), 40 - riddle);
            }
            check.same("the referrals stay", post.ticksUntilForgetting(), 20);
        });
        sentences.test(place, "Undoable.", check -> {
            Posts.undoable(check, "forget a reference", Posts::busy, post -> post.forget(1));
            Posts.undoable(check, "forget a refusal", Posts::busy, post -> post.forget(13));
            Posts.undoable(check, "forget an answer", Posts::busy, post -> post.forget(30));
        });
        sentences.test(place, "- `riddle`: 0 to 35", check -> {
            for (int riddle : new int[] {0, 35}) {
                RiddlePost post = Posts.fullMemory();
                check.passes("forget(" + riddle + ")", () -> post.forget(riddle));
                check.same("rememberedOf(" + riddle + ")", post.rememberedOf(riddle), NOTHING);
            }
        });
        sentences.test(place, "Returns ANSWER, REFERENCE or REFUSAL.", check -> {
            RiddlePost post = Posts.chain(1);
            post.setReference(1, 2, 9);
            post.setAnswer(3, 0, 9);
            post.solve(0);
            post.solve(3);
            check.same("a reference", post.forget(0), REFERENCE);
            check.same("a refusal", post.forget(2), REFUSAL);
            check.same("the lowest answer", post.forget(3), ANSWER);
            post.takeAway(1);
            check.same("what is remembered, not what it has", post.forget(1), REFERENCE);
        });
        sentences.test(place, "Throws `IndexOutOfBoundsException` if there is no such riddle", check ->
                Posts.refusesOutside(check, "forget", 0, 35, Posts.INDEX, riddle -> Posts.fullMemory().forget(riddle)));
        sentences.test(place, "Throws `IllegalStateException` if nothing is remembered of it",
                BoundsOfChanges::nothingToForget);
    }

    private static void nothingToForget(Check check) {
        for (int riddle = 0; riddle < 36; riddle++) {
            int none = riddle;
            check.raises("forget of an empty memory", Posts.STATE, () -> new RiddlePost().forget(none));
        }
        RiddlePost post = Posts.fullMemory();
        post.forget(0);
        check.raises("forget again", Posts.STATE, () -> post.forget(0));
        post.pass(4);
        check.same("forget in the last tick", post.forget(1), REFUSAL);
        post.pass(1);
        check.raises("forget when it has ended now", Posts.STATE, () -> post.forget(2));
        post.setAnswer(2, 1, 1);
        check.raises("forget what it only has", Posts.STATE, () -> post.forget(2));
        post.undo();
        post.undo();
        check.same("forget when the end is undone", post.forget(2), REFUSAL);
    }

    // ---- promise 9

    private static void pass(Sentences sentences) {
        String place = "Promise 9";
        sentences.test(place, "Lets ticks pass.", check -> {
            RiddlePost post = new RiddlePost();
            post.pass(1);
            check.same("time", post.time(), 1);
            post.pass(99);
            check.same("time", post.time(), 100);
        });
        sentences.test(place, "Undoable.", check -> {
            Posts.undoable(check, "pass(1)", Posts::busy, post -> post.pass(1));
            Posts.undoable(check, "pass(99) that forgets all", Posts::busy, post -> post.pass(99));
            Posts.undoable(check, "pass to the last time", () -> Posts.at(9900), post -> post.pass(99));
        });
        sentences.test(place, "- `ticks`: 1 to 99", check ->
                Posts.bounds(check, "pass", 1, 99, Posts.ARGUMENT, ticks -> new RiddlePost().pass(ticks)));
        sentences.test(place, "Returns the number of referrals and replies that are forgotten in them.",
                BoundsOfChanges::forgottenInTicks);
        sentences.test(place, "Throws `IllegalArgumentException` if ticks is out of range", check ->
                Posts.refusesOutside(check, "pass", 1, 99, Posts.ARGUMENT, ticks -> Posts.busy().pass(ticks)));
        sentences.test(place, "Throws `IllegalStateException` if the time would be above 9999",
                BoundsOfChanges::lastTime);
    }

    private static void forgottenInTicks(Check check) {
        check.same("none of an empty memory", new RiddlePost().pass(99), 0);
        check.same("none before the first end", Posts.fullMemory().pass(4), 0);
        check.same("the replies in the moment of their end", Posts.fullMemory().pass(5), 36);
        check.same("the replies one tick later", Posts.fullMemory().pass(6), 36);
        check.same("the replies before the referrals end", Posts.fullMemory().pass(19), 36);
        check.same("all in the moment of the last end", Posts.fullMemory().pass(20), 41);
        check.same("all at the longest", Posts.fullMemory().pass(99), 41);
        RiddlePost post = Posts.fullMemory();
        post.pass(99);
        check.same("none of what is forgotten already", post.pass(99), 0);
        RiddlePost oldest = new RiddlePost();
        oldest.setAges(0, 99, 99);
        oldest.setAges(1, 99, 99);
        oldest.solve(6);
        check.same("the longest ages, a tick before", oldest.pass(98), 0);
        check.same("the longest ages, at their end", oldest.pass(1), 2);
        RiddlePost forgotten = Posts.fullMemory();
        forgotten.forget(0);
        check.same("none of what one made it forget", forgotten.pass(20), 40);
    }

    private static void lastTime(Check check) {
        for (int left = 0; left <= 100; left++) {
            for (int ticks : new int[] {1, left, left + 1, 99}) {
                if (ticks >= 1 && ticks <= 99) {
                    RiddlePost post = Posts.at(9999 - left);
                    if (ticks <= left) {
                        check.same("pass(" + ticks + ") with ticks left: " + left, post.pass(ticks), 0);
                        check.same("time", post.time(), 9999 - left + ticks);
                    } else {
                        check.raises("pass(" + ticks + ") with ticks left: " + left, Posts.STATE,
                                () -> post.pass(ticks));
                        check.same("time", post.time(), 9999 - left);
                    }
                }
            }
        }
        RiddlePost post = Posts.at(9999);
        post.undo();
        check.same("time when undone", post.time(), 9900);
        check.same("up to the last time again", post.pass(99), 0);
        check.same("time", post.time(), 9999);
    }
}
