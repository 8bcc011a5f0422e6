import static java.util.Map.entry;

import java.util.List;
import java.util.Map;
import java.util.function.Consumer;

/** The boundaries that the document names under "Terms" and beside the promises. */
final class BoundsOfTerms {
    private static final int NONE = RiddlePost.NONE;
    private static final int TOO_LONG = RiddlePost.TOO_LONG;
    private static final int NOTHING = RiddlePost.NOTHING;
    private static final int ANSWER = RiddlePost.ANSWER;
    private static final int REFERENCE = RiddlePost.REFERENCE;
    private static final int REFUSAL = RiddlePost.REFUSAL;

    private BoundsOfTerms() {
    }

    static void all(Sentences sentences) {
        zones(sentences);
        memory(sentences);
        asking(sentences);
        solving(sentences);
        text(sentences);
        undo(sentences);
        exceptions(sentences);
        constants(sentences);
        sentences.test("What it is", "An object is used for at most 512 calls after it has been made",
                BoundsOfTerms::lastCall);
        sentences.test("Terms", "Ahead of the calls `wouldSolve`, `costOf`, `ticksUntilTruth` the interface says: "
                + "---- forecasts; they change nothing, and the bound of the time does not matter.",
                BoundsOfTerms::forecasts);
    }

    private static void lastCall(Check check) {
        RiddlePost post = new RiddlePost();
        post.setAnswer(35, 7, 99);
        for (int call = 1; call < 511; call++) {
            check.same("call " + (call + 1), post.solve(35), 7);
        }
        check.same("call 512", post.hits(), 509);
        RiddlePost changed = new RiddlePost();
        for (int call = 0; call < 510; call++) {
            changed.setAnswer(call % 36, call % 100, 1 + call % 99);
        }
        check.same("call 511", changed.undo(), 5);
        check.same("call 512", changed.valueOf(509 % 36), (509 - 36) % 100);
    }

    private static void forecasts(Check check) {
        for (int riddle : new int[] {0, 1, 2, 13, 30, 35}) {
            Posts.asksOnly(check, "wouldSolve(" + riddle + ")", Posts::busy, post -> post.wouldSolve(riddle));
            Posts.asksOnly(check, "costOf(" + riddle + ")", Posts::busy, post -> post.costOf(riddle));
            Posts.asksOnly(check, "ticksUntilTruth(" + riddle + ")", Posts::busy,
                    post -> post.ticksUntilTruth(riddle));
        }
        RiddlePost last = Posts.at(9999);
        last.setAnswer(35, 4, 99);
        last.solve(35);
        last.setAnswer(35, 5, 99);
        check.same("wouldSolve at the last time", last.wouldSolve(35), 4);
        check.same("costOf at the last time", last.costOf(34), 1);
        check.same("ticksUntilTruth at the last time", last.ticksUntilTruth(35), 99);
    }

    // ---- times, zones, riddles

    private static void zones(Sentences sentences) {
        sentences.test("Terms", "All values are integers, unless something else is said. "
                + "Times are in ticks; the time is 0 at first.",
                check -> check.same("time()", new RiddlePost().time(), 0));
        sentences.test("Terms", "Zones. There are 6 zones, numbered from 0.",
                check -> Posts.bounds(check, "depthOf", 0, 5, Posts.INDEX, zone -> new RiddlePost().depthOf(zone)));
        sentences.test("Terms", "The zone 0 is the root; each other zone has a parent, which is a zone with a lower "
                + "number, at first (its number minus 1) divided by 2, rounded down.", BoundsOfTerms::parents);
        sentences.test("Terms", "The depth of a zone is the number of steps from it to the root by parents.",
                BoundsOfTerms::depths);
        sentences.test("Terms", "A zone has an age for referrals from 1 to 99, at first 20,",
                BoundsOfTerms::agesForReferrals);
        sentences.test("Terms", "and an age for refusals from 1 to 99, at first 5.", BoundsOfTerms::agesForRefusals);
        sentences.test("Terms", "Riddles. There are 36 riddles, numbered from 0;",
                check -> Posts.bounds(check, "kindOf", 0, 35, Posts.INDEX, riddle -> new RiddlePost().kindOf(riddle)));
        sentences.test("Terms", "a riddle belongs to the zone (its number divided by 6, rounded down).",
                BoundsOfTerms::riddlesOfZones);
        sentences.test("Terms", "A riddle has an answer from 0 to 99 with an age from 1 to 99,",
                BoundsOfTerms::answers);
        sentences.test("Terms", "or a reference to another riddle with an age from 1 to 99,",
                BoundsOfTerms::references);
        sentences.test("Terms", "or nothing, as at first.", BoundsOfTerms::nothingAtFirst);
    }

    private static void parents(Check check) {
        int[] atFirst = {NONE, 0, 0, 1, 1, 2};
        for (int zone = 0; zone < 6; zone++) {
            check.same("parentOf(" + zone + ")", new RiddlePost().parentOf(zone), atFirst[zone]);
        }
        for (int zone = 1; zone < 6; zone++) {
            RiddlePost post = new RiddlePost();
            post.setParent(zone, zone - 1);
            check.same("the highest parent of " + zone, post.parentOf(zone), zone - 1);
            post.setParent(zone, 0);
            check.same("the lowest parent of " + zone, post.parentOf(zone), 0);
        }
    }

    private static void depths(Check check) {
        int[] atFirst = {0, 1, 1, 2, 2, 2};
        RiddlePost flat = new RiddlePost();
        for (int zone = 1; zone < 6; zone++) {
            flat.setParent(zone, 0);
        }
        for (int zone = 0; zone < 6; zone++) {
            check.same("depthOf at first " + zone, new RiddlePost().depthOf(zone), atFirst[zone]);
            check.same("depthOf in a line " + zone, Posts.line().depthOf(zone), zone);
            check.same("depthOf if all are flat " + zone, flat.depthOf(zone), Math.min(zone, 1));
        }
    }

    private static void agesForReferrals(Check check) {
        for (int zone = 0; zone < 6; zone++) {
            check.same("the first one of " + zone, new RiddlePost().setAges(zone, 1, 1), 20);
            for (int age : new int[] {1, 99}) {
                RiddlePost post = new RiddlePost();
                post.setAges(zone, age, 50);
                check.same("the age " + age + " of " + zone, post.setAges(zone, 50, 50), age);
            }
        }
        RiddlePost post = new RiddlePost();
        post.solve(6);
        check.same("the first referral lasts", post.referralLeft(1), 20);
    }

    private static void agesForRefusals(Check check) {
        for (int zone = 0; zone < 6; zone++) {
            RiddlePost first = new RiddlePost();
            first.solve(6 * zone);
            check.same("the first refusal of " + zone + " lasts", first.ticksLeftOf(6 * zone), 5);
            for (int age : new int[] {1, 99}) {
                RiddlePost post = new RiddlePost();
                post.setAges(zone, 50, age);
                post.solve(6 * zone + 5);
                check.same("a refusal of " + zone + " lasts", post.ticksLeftOf(6 * zone + 5), age);
            }
        }
    }

    private static void riddlesOfZones(Check check) {
        for (int zone = 0; zone < 6; zone++) {
            for (int riddle : new int[] {6 * zone, 6 * zone + 5}) {
                RiddlePost post = new RiddlePost();
                post.setAges(zone, 50, 77);
                post.solve(riddle);
                check.same("riddle " + riddle + " is asked in zone " + zone, post.ticksLeftOf(riddle), 77);
                check.same("once in zone " + zone, post.questionsTo(zone), 1);
            }
        }
    }

    private static void answers(Check check) {
        for (int answer : new int[] {0, 99}) {
            for (int age : new int[] {1, 99}) {
                RiddlePost post = new RiddlePost();
                post.setAnswer(9, answer, age);
                check.same("solve", post.solve(9), answer);
                check.same("ticksLeftOf", post.ticksLeftOf(9), age);
            }
        }
    }

    private static void references(Check check) {
        for (int age : new int[] {1, 99}) {
            RiddlePost post = new RiddlePost();
            post.setReference(0, 35, age);
            post.setReference(35, 1, age);
            post.solve(0);
            check.same("ticksLeftOf(0) with the age " + age, post.ticksLeftOf(0), age);
            check.same("ticksLeftOf(35) with the age " + age, post.ticksLeftOf(35), age);
        }
        for (int riddle = 0; riddle < 36; riddle++) {
            int same = riddle;
            check.raises("a reference to itself", Posts.ARGUMENT, () -> new RiddlePost().setReference(same, same, 9));
        }
    }

    private static void nothingAtFirst(Check check) {
        for (int riddle = 0; riddle < 36; riddle++) {
            check.same("kindOf(" + riddle + ")", new RiddlePost().kindOf(riddle), NOTHING);
            check.same("solve(" + riddle + ")", new RiddlePost().solve(riddle), NONE);
        }
    }

    // ---- memory

    private static void memory(Sentences sentences) {
        sentences.test("Terms", "Memory. The post remembers referrals: for each zone but the root at most one;",
                BoundsOfTerms::atMostOneReferral);
        sentences.test("Terms", "and replies: for each riddle at most one,", BoundsOfTerms::atMostOneReply);
        sentences.test("Terms", "which is an answer, a reference, or a refusal, as it was when it was asked.",
                BoundsOfTerms::asItWas);
        sentences.test("Terms", "Each of them has a time at which it ends. In the moment in which the time becomes the "
                + "time at which something ends, it is forgotten.", BoundsOfTerms::endsInTheMoment);
    }

    private static void atMostOneReferral(Check check) {
        RiddlePost post = Posts.fullMemory();
        check.same("no referral to the root", post.referralLeft(0), NONE);
        check.same("the whole memory", post.remembered(), 5 + 36);
        post.pass(5);
        check.same("all the referrals", post.remembered(), 5);
        for (int zone = 1; zone < 6; zone++) {
            check.same("referralLeft(" + zone + ")", post.referralLeft(zone), 15);
        }
        post.setParent(5, 0);
        post.solve(30);
        check.same("none is added by a new way to it", post.remembered(), 6);
    }

    private static void atMostOneReply(Check check) {
        RiddlePost post = Posts.fullMemory();
        for (int riddle = 0; riddle < 36; riddle++) {
            post.setAnswer(riddle, riddle, 99);
            check.same("the reply of " + riddle + " stays the only one", post.solve(riddle), NONE);
            check.same("rememberedOf(" + riddle + ")", post.rememberedOf(riddle), REFUSAL);
        }
        check.same("the memory stays full", post.remembered(), 41);
        check.same("also by account", post.rememberedByAccount(), 41);
        check.same("all of them are hits", post.hits(), 36);
    }

    private static void asItWas(Check check) {
        RiddlePost post = new RiddlePost();
        post.setAnswer(0, 4, 99);
        post.setReference(1, 0, 99);
        post.solve(1);
        post.solve(2);
        post.setReference(0, 2, 1);
        post.setReference(1, 3, 1);
        post.setAnswer(2, 8, 1);
        check.same("the answer as it was", post.rememberedOf(0), ANSWER);
        check.same("its value as it was", post.solve(0), 4);
        check.same("the reference as it was", post.solve(1), 4);
        check.same("the refusal as it was", post.solve(2), NONE);
        check.same("the ends as they were", post.ticksLeftOf(0) + post.ticksLeftOf(1) + post.ticksLeftOf(2), 203);
    }

    private static void endsInTheMoment(Check check) {
        for (int age : new int[] {2, 50, 99}) {
            RiddlePost post = new RiddlePost();
            post.setAges(0, age, 1);
            post.setAges(1, 1, age);
            post.setAnswer(7, 1, age);
            post.setReference(8, 7, age);
            post.solve(6);
            post.solve(8);
            check.same("one tick before the end", post.pass(age - 1), 0);
            check.same("all four are remembered", post.remembered(), 4);
            check.same("one tick is left", post.ticksUntilForgetting(), 1);
            check.same("in the moment of the end", post.pass(1), 4);
            check.same("all are forgotten", post.remembered(), 0);
            check.same("asked again", post.costOf(8), 3);
        }
        RiddlePost one = new RiddlePost();
        one.setAges(0, 1, 1);
        one.solve(6);
        one.solve(0);
        check.same("two of three end in the first tick", one.pass(1), 2);
        check.same("the refusal of zone 1 is left", one.ticksLeftOf(6), 4);
        RiddlePost over = new RiddlePost();
        over.solve(6);
        check.same("one tick beyond the end of the refusal", over.pass(6), 1);
        check.same("one tick beyond the end of the referral", over.pass(15), 1);
        RiddlePost exact = Posts.at(9979);
        exact.solve(6);
        check.same("to the last time", exact.pass(20), 2);
        check.same("which is the end of the referral", exact.referralLeft(1), NONE);
    }

    // ---- asking the zones

    private static void asking(Sentences sentences) {
        sentences.test("Terms", "Asking the zones. To come to a zone, the messenger begins at the nearest zone on the "
                + "way from it to the root (the zone itself included) that is the root or has a remembered referral.",
                BoundsOfTerms::whereTheMessengerBegins);
        sentences.test("Terms", "From there the messenger goes down, zone by zone, to the one wanted: each zone that "
                + "is asked for the way to the next one costs a question,", BoundsOfTerms::questionsOnTheWay);
        sentences.test("Terms", "and the referral to that next one is remembered then; it ends at the time plus the "
                + "age for referrals of the zone that was asked.", BoundsOfTerms::referralsOnTheWay);
        sentences.test("Terms", "In the zone wanted, the riddle is asked, which costs one more question.",
                BoundsOfTerms::questionInTheZone);
        sentences.test("Terms", "The reply is remembered: an answer or a reference ends at the time plus its age, a "
                + "refusal (if the riddle has nothing) at the time plus the age for refusals of the zone.",
                BoundsOfTerms::endsOfReplies);
    }

    private static void whereTheMessengerBegins(Check check) {
        RiddlePost root = new RiddlePost();
        root.solve(0);
        check.same("at the root itself there is no way", root.questions(), 1);
        RiddlePost post = Posts.line();
        post.solve(30);
        check.same("the longest way", post.questions(), 6);
        post.solve(31);
        check.same("the zone itself has a referral", post.questions(), 7);
        post.pass(20);
        post.setAges(0, 5, 5);
        post.solve(12);
        check.same("zones 1 and 2 again", post.questions(), 10);
        check.same("the way from zone 2 on", post.costOf(30), 4);
        post.pass(5);
        check.same("zone 1 is forgotten, zone 2 not", post.referralLeft(1) * 100 + post.referralLeft(2), -85);
        check.same("the way from zone 2 on nevertheless", post.costOf(30), 4);
        check.same("but for zone 1 from the root", post.costOf(6), 2);
        post.setParent(3, 0);
        check.same("zone 2 is no more on the way", post.costOf(30), 4);
        post.setParent(4, 0);
        check.same("nor zone 3", post.costOf(30), 3);
        post.setParent(5, 2);
        check.same("zone 2 is the parent", post.costOf(30), 2);
    }

    private static void questionsOnTheWay(Check check) {
        for (int zone = 0; zone < 6; zone++) {
            RiddlePost post = Posts.line();
            post.solve(6 * zone);
            for (int other = 0; other < 6; other++) {
                check.same("questionsTo(" + other + ") on the way to " + zone, post.questionsTo(other),
                        other <= zone ? 1 : 0);
            }
            check.same("questions", post.questions(), zone + 1);
        }
        RiddlePost tree = new RiddlePost();
        tree.solve(30);
        check.same("zone 5 is below 2", tree.questionsTo(0) * 100 + tree.questionsTo(2) * 10 + tree.questionsTo(5), 111);
        check.same("the others are not asked", tree.questionsTo(1) + tree.questionsTo(3) + tree.questionsTo(4), 0);
    }

    private static void referralsOnTheWay(Check check) {
        RiddlePost post = Posts.line();
        int[] ages = {99, 1, 50, 2, 98, 77};
        for (int zone = 0; zone < 6; zone++) {
            post.setAges(zone, ages[zone], 9);
        }
        post.pass(13);
        post.solve(30);
        check.same("none to the root", post.referralLeft(0), NONE);
        for (int zone = 1; zone < 6; zone++) {
            check.same("referralLeft(" + zone + ")", post.referralLeft(zone), ages[zone - 1]);
        }
        post.pass(1);
        post.solve(31);
        check.same("a referral that is used keeps its end", post.referralLeft(5), 97);
        check.same("one that is not used stays forgotten", post.referralLeft(2), NONE);
    }

    private static void questionInTheZone(Check check) {
        RiddlePost post = new RiddlePost();
        for (int riddle = 0; riddle < 36; riddle++) {
            int before = post.questionsTo(riddle / 6);
            post.solve(riddle);
            check.same("the way and riddle " + riddle, post.questionsTo(riddle / 6), before + 1);
        }
        check.same("36 riddles and 5 referrals", post.questions(), 41);
    }

    private static void endsOfReplies(Check check) {
        for (int time : new int[] {0, 1, 9900, 9999}) {
            RiddlePost post = Posts.at(time);
            post.setAges(3, 1, 42);
            post.setAnswer(18, 5, 99);
            post.setReference(19, 18, 1);
            check.same("solve", post.solve(19), 5);
            check.same("solve nothing", post.solve(20), NONE);
            check.same("an answer by its age", post.ticksLeftOf(18), 99);
            check.same("a reference by its age", post.ticksLeftOf(19), 1);
            check.same("a refusal by the age of the zone", post.ticksLeftOf(20), 42);
        }
    }

    // ---- solving

    private static void solving(Sentences sentences) {
        sentences.test("Terms", "Solving a riddle. A remembered reply is taken, which costs nothing and is a hit; "
                + "otherwise the zones are asked.", BoundsOfTerms::hitOrAsked);
        sentences.test("Terms", "If the reply is an answer, this is the result; if it is a refusal, the result is "
                + "NONE.", BoundsOfTerms::results);
        sentences.test("Terms", "If it is a reference, the other riddle is solved in the same way;",
                BoundsOfTerms::sameWay);
        sentences.test("Terms", "but if 6 references have been followed already, the result is TOO_LONG (the seventh "
                + "reference is not followed).", BoundsOfTerms::seventhReference);
    }

    private static void hitOrAsked(Check check) {
        RiddlePost post = new RiddlePost();
        post.setAnswer(35, 3, 1);
        post.solve(35);
        check.same("asked", post.questions() * 100 + post.hits(), 300);
        post.solve(35);
        check.same("a hit", post.questions() * 100 + post.hits(), 301);
        check.same("it is not renewed", post.ticksLeftOf(35), 1);
        post.pass(1);
        post.solve(35);
        check.same("asked when it is forgotten", post.questions() * 100 + post.hits(), 401);
        post.forget(35);
        post.solve(35);
        check.same("asked when one made it forget", post.questions() * 100 + post.hits(), 501);
    }

    private static void results(Check check) {
        RiddlePost post = new RiddlePost();
        post.setAnswer(0, 0, 9);
        post.setAnswer(1, 99, 9);
        check.same("the lowest answer", post.solve(0), 0);
        check.same("the highest answer", post.solve(1), 99);
        check.same("a refusal", post.solve(2), NONE);
        check.same("the lowest answer, remembered", post.solve(0), 0);
        check.same("the highest answer, remembered", post.solve(1), 99);
        check.same("a refusal, remembered", post.solve(2), NONE);
    }

    private static void sameWay(Check check) {
        RiddlePost post = new RiddlePost();
        post.setReference(0, 35, 50);
        post.setReference(35, 1, 50);
        check.same("a chain to nothing", post.solve(0), NONE);
        check.same("the way to zone 5 and three riddles", post.questions(), 5);
        check.same("all of them are remembered", post.remembered(), 5);
        post.pass(5);
        post.setAnswer(1, 12, 50);
        check.same("two remembered references, then asked", post.solve(0), 12);
        check.same("two hits, one question", post.hits() * 100 + post.questions(), 206);
        post.forget(35);
        post.setAnswer(35, 13, 50);
        check.same("a remembered reference, then asked", post.solve(0), 13);
        check.same("one hit, one question", post.hits() * 100 + post.questions(), 307);
    }

    private static void seventhReference(Check check) {
        for (int references = 0; references <= 9; references++) {
            RiddlePost post = Posts.chain(references);
            int due = references <= 6 ? 66 : TOO_LONG;
            int asked = Math.min(references, 6);
            check.same("solve with references: " + references, post.solve(0), due);
            check.same("the last one that is asked", post.rememberedOf(asked) != NOTHING, true);
            check.same("the next one is not", post.rememberedOf(asked + 1), NOTHING);
            check.same("solve them remembered", post.solve(0), due);
            check.same("hits then", post.hits(), asked + 1);
        }
        RiddlePost nothing = Posts.chain(6);
        nothing.takeAway(6);
        check.same("six references to nothing", nothing.solve(0), NONE);
        RiddlePost circle = new RiddlePost();
        circle.setReference(0, 1, 9);
        circle.setReference(1, 0, 9);
        check.same("a circle", circle.solve(0), TOO_LONG);
        check.same("seven replies: two questions, five hits", circle.questions() * 10 + circle.hits(), 25);
    }

    // ---- text

    private static void text(Sentences sentences) {
        sentences.test("Terms", "Text. There is a text of at most 60 characters, empty at first.",
                BoundsOfTerms::lengthOfTheText);
        sentences.test("Terms", "Acts are written as one or more items separated by \",\": \"?\", and a riddle (it is "
                + "solved), or \"+\" and a number from 1 to 99 (so many ticks pass).", BoundsOfTerms::items);
        sentences.test("Terms", "A riddle is a number from 0 to 35; numbers have no leading zeros.",
                BoundsOfTerms::numbers);
    }

    private static void lengthOfTheText(Check check) {
        check.same("empty at first", new RiddlePost().clearText(), 0);
        RiddlePost post = new RiddlePost();
        for (int length = 1; length <= 60; length++) {
            check.same("append", post.append('~'), length);
        }
        check.raises("append to the full text", Posts.STATE, () -> post.append('~'));
        check.same("60 characters", post.clearText(), 60);
    }

    private static void items(Check check) {
        check.same("none", new RiddlePost().firstError(), 0);
        check.same("one", Posts.written("?0").firstError(), NONE);
        check.same("two", Posts.written("?0,+1").firstError(), NONE);
        check.same("the most", Posts.written("?0" + ",?0".repeat(19)).firstError(), NONE);
        check.same("a separator behind the last", Posts.written("?0,").firstError(), 3);
        check.same("a separator ahead of the first", Posts.written(",?0").firstError(), 0);
        check.same("two separators", Posts.written("?0,,?0").firstError(), 3);
        RiddlePost post = Posts.written("?6,+19,?7,+1");
        check.same("runActs", post.runActs(), 4);
        check.same("solved", post.solved(), 2);
        check.same("ticks passed", post.time(), 20);
    }

    private static void numbers(Check check) {
        for (int number = 0; number <= 120; number++) {
            RiddlePost solving = Posts.written("?" + number);
            RiddlePost passing = Posts.written("+" + number);
            check.same("?" + number, solving.firstError() == NONE, number <= 35);
            check.same("+" + number, passing.firstError() == NONE, number >= 1 && number <= 99);
            if (number <= 35) {
                solving.runActs();
                check.same("solved " + number, solving.rememberedOf(number), REFUSAL);
            }
            if (number >= 1 && number <= 99) {
                passing.runActs();
                check.same("passed", passing.time(), number);
            }
            check.same("?0" + number, Posts.written("?0" + number).firstError(), 2);
            check.same("+0" + number, Posts.written("+0" + number).firstError(), 1);
        }
    }

    // ---- undo

    private static void undo(Sentences sentences) {
        sentences.test("Terms", "Undo. Each method that is marked \"Undoable\" saves the state as it was before the "
                + "call, unless it throws an exception.", BoundsOfTerms::whatSaves);
        sentences.test("Terms", "At most 6 states are kept; when a seventh is saved, the oldest one is dropped.",
                BoundsOfTerms::seventhState);
        sentences.test("Terms", "The state is everything except the text and the saved states.",
                BoundsOfTerms::whatIsState);
    }

    private static void whatSaves(Check check) {
        Map<String, Consumer<RiddlePost>> undoable = Map.ofEntries(
                entry("setParent", post -> post.setParent(5, 4)),
                entry("setParent to the same", post -> post.setParent(5, 3)),
                entry("setAges", post -> post.setAges(1, 1, 1)),
                entry("setAges to the same", post -> post.setAges(1, 33, 44)),
                entry("setAnswer", post -> post.setAnswer(2, 3, 4)),
                entry("setAnswer to the same", post -> post.setAnswer(30, 9, 19)),
                entry("setReference", post -> post.setReference(2, 3, 4)),
                entry("setReference to the same", post -> post.setReference(0, 30, 40)),
                entry("takeAway", post -> post.takeAway(30)),
                entry("solve", post -> post.solve(35)),
                entry("solve by a hit", post -> post.solve(1)),
                entry("forget", post -> post.forget(1)),
                entry("pass", post -> post.pass(99)),
                entry("runActs", post -> post.runActs()));
        for (Map.Entry<String, Consumer<RiddlePost>> call : undoable.entrySet()) {
            Posts.undoable(check, call.getKey(), Posts::busy, call.getValue());
        }
        for (Refused refused : Refused.list()) {
            RiddlePost post = refused.maker().get();
            int saved = Posts.countSaved(refused.maker().get());
            check.raises(refused.call(), refused.due(), () -> refused.body().accept(post));
            check.same(refused.call() + " saves nothing", Posts.countSaved(post), saved);
        }
    }

    private static void seventhState(Check check) {
        for (int calls = 0; calls <= 13; calls++) {
            RiddlePost post = Posts.at(0);
            for (int call = 0; call < calls; call++) {
                post.pass(1);
            }
            check.same("states saved by calls: " + calls, Posts.countSaved(post), Math.min(calls, 6));
            check.same("time after all are undone", post.time(), Math.max(calls - 6, 0));
        }
        RiddlePost post = Posts.at(0);
        for (int call = 0; call < 6; call++) {
            post.pass(1);
        }
        check.same("undo the sixth", post.undo(), 5);
        post.pass(2);
        check.same("a sixth again drops none", Posts.countSaved(post), 6);
        check.same("down to the first one", post.time(), 0);
    }

    private static void whatIsState(Check check) {
        RiddlePost post = Posts.busy();
        String before = Posts.told(post);
        Posts.write(post, ",?3");
        post.setParent(4, 0);
        post.setAges(2, 98, 97);
        post.takeAway(0);
        post.solve(25);
        post.forget(13);
        post.runActs();
        Posts.write(post, "?1,+3,?20");
        check.same("undo", post.undo(), 5);
        for (int left = 4; left >= 0; left--) {
            check.same("undo", post.undo(), left);
        }
        check.sameText("all is as it was", Posts.told(post), before);
        check.same("the ages, too", post.setAges(2, 1, 1), 20);
        check.same("but the text is not", post.clearText(), 9);
    }

    // ---- exceptions

    private static void exceptions(Sentences sentences) {
        sentences.test("Terms", "Exceptions. IndexOutOfBoundsException: there is no such zone, riddle or place.",
                check -> refusedFor(check, Posts.INDEX));
        sentences.test("Terms", "IllegalArgumentException: another argument is out of its range.",
                check -> refusedFor(check, Posts.ARGUMENT));
        sentences.test("Terms", "IllegalStateException: the call is not possible as things are.",
                check -> refusedFor(check, Posts.STATE));
        sentences.test("Terms", "A call that throws an exception changes nothing.", BoundsOfTerms::changesNothing);
        sentences.test("Terms", "If several exceptions apply to a call, the one that stands first in its throws clause "
                + "is thrown.", BoundsOfTerms::firstOfSeveral);
    }

    private static void refusedFor(Check check, Class<? extends RuntimeException> due) {
        int count = 0;
        for (Refused refused : Refused.list()) {
            if (refused.due() == due) {
                RiddlePost post = refused.maker().get();
                check.raises(refused.call(), due, () -> refused.body().accept(post));
                check.raises(refused.call() + " again", due, () -> refused.body().accept(post));
                count++;
            }
        }
        check.same("there are such calls", count > 0, true);
    }

    private static void changesNothing(Check check) {
        for (Refused refused : Refused.list()) {
            Posts.refuses(check, refused.call(), refused.due(), refused.maker(), refused.body());
        }
    }

    private static void firstOfSeveral(Check check) {
        RiddlePost post = new RiddlePost();
        for (int zone : List.of(-1, 0, 6)) {
            for (int parent : List.of(-1, zone, 6)) {
                check.raises("setParent, both wrong", Posts.INDEX, () -> post.setParent(zone, parent));
            }
        }
        for (int none : List.of(-1, 36)) {
            check.raises("setAges, all wrong", Posts.INDEX, () -> post.setAges(none, 0, 100));
            check.raises("setAges, zone and referrals wrong", Posts.INDEX, () -> post.setAges(none, 0, 9));
            check.raises("setAges, zone and refusals wrong", Posts.INDEX, () -> post.setAges(none, 9, 100));
            check.raises("setAnswer, all wrong", Posts.INDEX, () -> post.setAnswer(none, 100, 0));
            check.raises("setAnswer, riddle and answer wrong", Posts.INDEX, () -> post.setAnswer(none, -1, 9));
            check.raises("setAnswer, riddle and age wrong", Posts.INDEX, () -> post.setAnswer(none, 9, 100));
            check.raises("setReference, all wrong", Posts.INDEX, () -> post.setReference(none, 37, 0));
            check.raises("setReference, no such one, and the same", Posts.INDEX,
                    () -> post.setReference(none, none, 9));
            check.raises("setReference, other and age wrong", Posts.INDEX, () -> post.setReference(3, none, 0));
            check.raises("setReference, riddle and age wrong", Posts.INDEX, () -> post.setReference(none, 3, 100));
        }
        RiddlePost last = Posts.at(9999);
        for (int ticks : List.of(-1, 0, 100, Integer.MAX_VALUE, Integer.MIN_VALUE)) {
            check.raises("pass(" + ticks + ") at the last time", Posts.ARGUMENT, () -> last.pass(ticks));
        }
        RiddlePost full = Posts.written("?".repeat(60));
        for (int code : List.of(-1, 0, 32, 127, Integer.MAX_VALUE, Integer.MIN_VALUE)) {
            check.raises("append(" + code + ") to the full text", Posts.ARGUMENT, () -> full.append(code));
        }
    }

    // ---- constants

    private static void constants(Sentences sentences) {
        sentences.test("Terms", "The constants: `NONE = -1`: There is no such number; a riddle has no answer.",
                check -> {
                    check.same("NONE", RiddlePost.NONE, -1);
                    check.same("no such number", new RiddlePost().parentOf(0), -1);
                    check.same("no answer", new RiddlePost().solve(0), -1);
                });
        sentences.test("Terms", "`TOO_LONG = -2`: A chain of references is too long.",
                check -> {
                    check.same("TOO_LONG", RiddlePost.TOO_LONG, -2);
                    check.same("too long", Posts.chain(7).solve(0), -2);
                });
        sentences.test("Terms", "`NOTHING = 0, ANSWER = 1, REFERENCE = 2, REFUSAL = 3`: What is remembered of a "
                + "riddle, or what it has.", BoundsOfTerms::kinds);
    }

    private static void kinds(Check check) {
        check.same("NOTHING", RiddlePost.NOTHING, 0);
        check.same("ANSWER", RiddlePost.ANSWER, 1);
        check.same("REFERENCE", RiddlePost.REFERENCE, 2);
        check.same("REFUSAL", RiddlePost.REFUSAL, 3);
        RiddlePost post = Posts.chain(1);
        post.setReference(1, 2, 9);
        post.setAnswer(3, 1, 9);
        post.solve(0);
        post.solve(3);
        check.same("has a reference", post.kindOf(0), REFERENCE);
        check.same("has an answer", post.kindOf(3), ANSWER);
        check.same("has nothing", post.kindOf(2), NOTHING);
        check.same("remembers a reference", post.rememberedOf(0), REFERENCE);
        check.same("remembers an answer", post.rememberedOf(3), ANSWER);
        check.same("remembers a refusal", post.rememberedOf(2), REFUSAL);
        check.same("remembers nothing", post.rememberedOf(4), NOTHING);
    }
}
