import java.util.ArrayList;
import java.util.List;

/** The boundaries that promises 31 to 36 name: the text, undo, and the digest. */
final class BoundsOfText {
    private static final int NONE = RiddlePost.NONE;
    private static final int REFUSAL = RiddlePost.REFUSAL;
    private static final int FULL = 60;

    private BoundsOfText() {
    }

    static void all(Sentences sentences) {
        append(sentences);
        clearText(sentences);
        firstError(sentences);
        runActs(sentences);
        undo(sentences);
        digest(sentences);
    }

    // ---- promise 31

    private static void append(Sentences sentences) {
        String place = "Promise 31";
        sentences.test(place, "Appends a character to the text.", check -> {
            RiddlePost post = new RiddlePost();
            post.append('?');
            check.same("one that is allowed", post.firstError(), 1);
            post.append('3');
            check.same("the next one behind it", post.firstError(), NONE);
            post.append('6');
            check.same("one that is not allowed is appended, too", post.firstError(), 2);
            check.same("three of them", post.clearText(), 3);
            check.raises("no state is saved", Posts.STATE, post::undo);
        });
        sentences.test(place, "- `code`: the code of the character, 33 to 126", check -> {
            Posts.bounds(check, "append", 33, 126, Posts.ARGUMENT, code -> new RiddlePost().append(code));
            for (int code = 33; code <= 126; code++) {
                check.same("append(" + code + ")", new RiddlePost().append(code), 1);
            }
        });
        sentences.test(place, "Returns the length of the text then.", check -> {
            RiddlePost post = new RiddlePost();
            for (int length = 1; length <= FULL; length++) {
                check.same("append", post.append(33 + length), length);
            }
            post.clearText();
            check.same("append to the text that was emptied", post.append('?'), 1);
        });
        sentences.test(place, "Throws `IllegalArgumentException` if code is out of range", check -> {
            RiddlePost post = Posts.busy();
            Posts.refusesOutside(check, "append", 33, 126, Posts.ARGUMENT, post::append);
            check.same("the text stays", post.clearText(), 9);
        });
        sentences.test(place, "Throws `IllegalStateException` if the text has 60 characters", check -> {
            RiddlePost post = Posts.written("~".repeat(FULL - 1));
            check.same("append to 59 characters", post.append('~'), FULL);
            for (int code : new int[] {33, 126}) {
                check.raises("append to 60 characters", Posts.STATE, () -> post.append(code));
            }
            check.same("60 characters", post.clearText(), FULL);
            check.same("append when it is emptied", post.append('?'), 1);
            RiddlePost run = Posts.written("?5" + ",?22".repeat(14) + ",1");
            check.raises("append to wrong acts of 60", Posts.STATE, () -> run.append('1'));
            RiddlePost acts = Posts.written("?5" + ",?22".repeat(13) + ",?1,?2");
            check.raises("append to acts of 60", Posts.STATE, () -> acts.append('1'));
            acts.runActs();
            check.same("append when they have happened", acts.append('1'), 1);
        });
    }

    // ---- promise 32

    private static void clearText(Sentences sentences) {
        sentences.test("Promise 32", "Empties the text.", check -> {
            RiddlePost post = Posts.written("?".repeat(FULL));
            post.clearText();
            check.same("the text is empty", post.firstError(), 0);
            Posts.write(post, "?1");
            check.same("nothing is left of it", post.firstError(), NONE);
            check.same("two characters", post.clearText(), 2);
            Posts.asksOnly(check, "clearText()", RiddlePost::new, RiddlePost::clearText);
        });
        sentences.test("Promise 32", "Returns the length that it had.", check -> {
            check.same("the empty text", new RiddlePost().clearText(), 0);
            for (int length = 1; length <= FULL; length++) {
                RiddlePost post = Posts.written("?".repeat(length));
                check.same("clearText", post.clearText(), length);
                check.same("clearText again", post.clearText(), 0);
            }
        });
    }

    // ---- promise 33

    private static void firstError(Sentences sentences) {
        String place = "Promise 33";
        sentences.test(place, "Finds the first error of the text.", check -> {
            check.same("of two errors", firstErrorOf("?36,+0"), 2);
            check.same("the second one", firstErrorOf("?35,+0"), 5);
            check.same("of an error and an end that is too early", firstErrorOf("?00,?"), 2);
            Posts.asksOnly(check, "firstError()", Posts::busy, RiddlePost::firstError);
        });
        sentences.test(place, "Returns the index of the first character that is not allowed at its place",
                BoundsOfText::everyCodeAtEveryPlace);
        sentences.test(place, "(no acts begin with the characters up to and including it);",
                BoundsOfText::shortTexts);
        sentences.test(place, "the length of the text if there is no such character, but the text ends too early",
                BoundsOfText::endsTooEarly);
        sentences.test(place, "(this holds for the empty text);", check -> {
            check.same("a new object", new RiddlePost().firstError(), 0);
            RiddlePost post = Posts.written("?1");
            post.clearText();
            check.same("an emptied text", post.firstError(), 0);
            Posts.write(post, "?1");
            post.runActs();
            check.same("a text that was run", post.firstError(), 0);
        });
        sentences.test(place, "NONE if the text tells acts.", BoundsOfText::acts);
    }

    private static int firstErrorOf(String text) {
        return Posts.written(text).firstError();
    }

    private static List<String> items() {
        List<String> items = new ArrayList<>();
        for (int riddle = 0; riddle <= 35; riddle++) {
            items.add("?" + riddle);
        }
        for (int ticks = 1; ticks <= 99; ticks++) {
            items.add("+" + ticks);
        }
        return items;
    }

    private static final List<String> ITEMS = items();

    /** Whether acts begin with this text: told by a list of all items, not by reading digits. */
    private static boolean beginsActs(String text) {
        String[] parts = text.split(",", -1);
        for (int part = 0; part < parts.length - 1; part++) {
            if (!ITEMS.contains(parts[part])) {
                return false;
            }
        }
        String last = parts[parts.length - 1];
        return ITEMS.stream().anyMatch(item -> item.startsWith(last));
    }

    private static int errorDue(String text) {
        for (int length = 1; length <= text.length(); length++) {
            if (!beginsActs(text.substring(0, length))) {
                return length - 1;
            }
        }
        String[] parts = text.split(",", -1);
        return ITEMS.contains(parts[parts.length - 1]) ? NONE : text.length();
    }

    private static void everyCodeAtEveryPlace(Check check) {
        String[] beginnings = {"", "?", "?0", "?1", "?2", "?3", "?4", "?9", "?10", "?29", "?30", "?35", "+", "+1",
            "+9", "+10", "+99", "?0,", "+1,", "?0,?", "?0,+", "+99,?35", "+99,+9", "?5,?3"};
        for (String beginning : beginnings) {
            for (char code = 33; code <= 126; code++) {
                String text = beginning + code;
                check.same("firstError of " + text, firstErrorOf(text), errorDue(text));
                check.same("firstError of " + text + "?", firstErrorOf(text + "?"), errorDue(text + "?"));
            }
        }
    }

    private static void shortTexts(Check check) {
        String signs = "?+,012345689x";
        int[] places = new int[4];
        for (places[0] = 0; places[0] < signs.length(); places[0]++) {
            for (places[1] = 0; places[1] < signs.length(); places[1]++) {
                for (places[2] = 0; places[2] < signs.length(); places[2]++) {
                    RiddlePost post = new RiddlePost();
                    for (places[3] = 0; places[3] < signs.length(); places[3]++) {
                        StringBuilder text = new StringBuilder();
                        for (int place : places) {
                            text.append(signs.charAt(place));
                        }
                        Posts.write(post, text.toString());
                        check.same("firstError of " + text, post.firstError(), errorDue(text.toString()));
                        post.clearText();
                    }
                }
            }
        }
    }

    private static void endsTooEarly(Check check) {
        String[] endings = {"?", "+", "?0,", "?35,", "+1,", "+99,", "?0,?", "?0,+", "+99,?35,"};
        for (String ending : endings) {
            check.same("firstError of " + ending, firstErrorOf(ending), ending.length());
        }
        String full = "?1,".repeat(20);
        check.same("a full text that ends with a separator", firstErrorOf(full), FULL);
        check.same("a full text that ends with ?", firstErrorOf("?5" + ",?22".repeat(14) + ",?"), FULL);
        check.same("a full text that ends with +", firstErrorOf("?5" + ",?22".repeat(14) + ",+"), FULL);
        check.same("one character less", firstErrorOf("?5" + ",?22".repeat(14) + ","), FULL - 1);
    }

    private static void acts(Check check) {
        for (String item : ITEMS) {
            check.same("firstError of " + item, firstErrorOf(item), NONE);
            check.same("firstError of two " + item, firstErrorOf(item + "," + item), NONE);
        }
        check.same("acts of 59 characters", firstErrorOf("?0" + ",?0".repeat(19)), NONE);
        check.same("acts of 60 characters", firstErrorOf("?0" + ",?0".repeat(18) + ",?35"), NONE);
        check.same("a wrong one at the last place", firstErrorOf("?0" + ",?0".repeat(18) + ",?36"), FULL - 1);
        check.same("a leading zero at the last place", firstErrorOf("?0" + ",?0".repeat(18) + ",?01"), FULL - 1);
        check.same("a zero behind the last +", firstErrorOf("?10" + ",?0".repeat(18) + ",+0"), FULL - 1);
    }

    // ---- promise 34

    private static void runActs(Sentences sentences) {
        String place = "Promise 34";
        sentences.test(place, "Lets the acts of the text happen, one after the other,", BoundsOfText::oneAfterTheOther);
        sentences.test(place, "up to the first one for which pass() would throw an exception;",
                BoundsOfText::upToTheLastTime);
        sentences.test(place, "the text becomes empty.", check -> {
            RiddlePost full = Posts.written("?5" + ",?22".repeat(13) + ",?1,?2");
            full.runActs();
            check.same("a full text", full.clearText(), 0);
            RiddlePost last = Posts.at(9999);
            Posts.write(last, "+1,?0");
            last.runActs();
            check.same("also if no act happens", last.clearText(), 0);
            check.same("and nothing is read again", last.firstError(), 0);
        });
        sentences.test(place, "Undoable, as one call, also if no act happens.", BoundsOfText::actsUndoable);
        sentences.test(place, "Returns the number of acts that happen.", check -> {
            for (int acts = 1; acts <= 20; acts++) {
                check.same("solving", Posts.written("?0" + ",?0".repeat(acts - 1)).runActs(), acts);
                check.same("passing", Posts.written("+1" + ",+1".repeat(acts - 1)).runActs(), acts);
            }
            for (int left = 0; left <= 20; left++) {
                RiddlePost post = Posts.at(9999 - left);
                Posts.write(post, "+1" + ",+1".repeat(19));
                check.same("passing with ticks left: " + left, post.runActs(), left);
                check.same("time", post.time(), 9999);
            }
        });
        sentences.test(place, "Throws `IllegalStateException` if the text does not tell acts (then it stays)", check -> {
            for (String text : new String[] {"", "?", "+", "?0,", "?36", "+0", "+100", "?00", "x", "?1,+2,?3x",
                "?1,".repeat(20), "~".repeat(FULL)}) {
                RiddlePost post = Posts.written(text);
                int error = post.firstError();
                check.raises("runActs of " + text, Posts.STATE, post::runActs);
                check.same("firstError stays", post.firstError(), error);
                check.same("no act happens", post.solved() + post.time(), 0);
                check.raises("no state is saved", Posts.STATE, post::undo);
                check.same("the text stays", post.clearText(), text.length());
            }
            RiddlePost mended = Posts.written("?0,+");
            check.raises("runActs too early", Posts.STATE, mended::runActs);
            mended.append('9');
            check.same("runActs when the end is there", mended.runActs(), 2);
        });
    }

    private static void oneAfterTheOther(Check check) {
        RiddlePost post = Posts.written("?6,+4,?6,+1,?6,+99,?7");
        check.same("seven acts", post.runActs(), 7);
        check.same("time", post.time(), 104);
        check.same("asked, a hit, asked again, asked again", post.questions() * 10 + post.hits(), 2 * 10 + 10 + 21);
        check.same("the last refusal", post.ticksLeftOf(7), 5);
        check.same("the others have ended", post.remembered(), 2);
        RiddlePost calls = new RiddlePost();
        calls.solve(6);
        calls.pass(4);
        calls.solve(6);
        calls.pass(1);
        calls.solve(6);
        calls.pass(99);
        calls.solve(7);
        check.sameText("as if they were called", Posts.told(post), Posts.told(calls));
        RiddlePost bounds = Posts.written("?0,?35,+1,+99");
        bounds.runActs();
        check.same("the outermost numbers", bounds.solved() * 1000 + bounds.time(), 2100);
    }

    private static void upToTheLastTime(Check check) {
        RiddlePost first = Posts.at(9999);
        Posts.write(first, "+1,?0");
        check.same("the first act", first.runActs(), 0);
        check.same("those behind it do not happen", first.solved(), 0);
        RiddlePost middle = Posts.at(9990);
        Posts.write(middle, "?0,+9,?1,+1,?2");
        check.same("an act in the middle", middle.runActs(), 3);
        check.same("those ahead of it happened", middle.rememberedOf(1), REFUSAL);
        check.same("those behind it did not", middle.solved(), 2);
        check.same("time", middle.time(), 9999);
        RiddlePost over = Posts.at(9990);
        Posts.write(over, "?0,+10,+9");
        check.same("also if a shorter one stands behind it", over.runActs(), 1);
        check.same("the time stays", over.time(), 9990);
        check.same("what is remembered stays", over.ticksLeftOf(0), 5);
        RiddlePost last = Posts.at(9900);
        Posts.write(last, "+99");
        check.same("just to the last time", last.runActs(), 1);
        RiddlePost solving = Posts.at(9999);
        Posts.write(solving, "?0,?0");
        check.same("solving at the last time", solving.runActs(), 2);
    }

    private static void actsUndoable(Check check) {
        Posts.undoable(check, "runActs", Posts::busy, RiddlePost::runActs);
        RiddlePost twenty = Posts.written("?0" + ",?1,+9".repeat(9));
        twenty.runActs();
        check.same("nineteen acts save one state", twenty.undo(), 0);
        check.same("all of them are undone", twenty.digest(), new RiddlePost().digest());
        RiddlePost last = Posts.at(9999);
        last.undo();
        last.pass(99);
        long before = last.digest();
        Posts.write(last, "+1");
        check.same("no act happens", last.runActs(), 0);
        check.same("a state is saved nevertheless", last.undo(), 5);
        check.same("and it is the same", last.digest(), before);
        check.same("then the pass before is undone", last.undo(), 4);
        check.same("time", last.time(), 9900);
        RiddlePost seventh = new RiddlePost();
        for (int call = 0; call < 6; call++) {
            seventh.pass(1);
        }
        Posts.write(seventh, "?1");
        seventh.runActs();
        check.same("the oldest state is dropped for it", Posts.countSaved(seventh), 6);
        check.same("time", seventh.time(), 1);
    }

    // ---- promise 35

    private static void undo(Sentences sentences) {
        String place = "Promise 35";
        sentences.test(place, "Restores the state that was saved last, and drops it.", check -> {
            RiddlePost post = new RiddlePost();
            long[] digests = new long[8];
            for (int call = 0; call < 8; call++) {
                digests[call] = post.digest();
                if (call % 2 == 0) {
                    post.solve(35 - call);
                } else {
                    post.setAnswer(35 - call, call, 9);
                }
            }
            for (int call = 7; call >= 2; call--) {
                post.undo();
                check.same("the state before call " + call, post.digest(), digests[call]);
            }
            check.raises("the states before them were dropped", Posts.STATE, post::undo);
        });
        sentences.test(place, "Returns the number of states that are left.", check -> {
            for (int calls = 1; calls <= 8; calls++) {
                RiddlePost post = new RiddlePost();
                for (int call = 0; call < calls; call++) {
                    post.pass(1);
                }
                for (int left = Math.min(calls, 6) - 1; left >= 0; left--) {
                    check.same("undo", post.undo(), left);
                }
            }
        });
        sentences.test(place, "Throws `IllegalStateException` if no state is saved", check -> {
            RiddlePost post = new RiddlePost();
            check.raises("a new object", Posts.STATE, post::undo);
            Posts.write(post, "?0");
            post.clearText();
            check.raises("append and clearText save none", Posts.STATE, post::undo);
            post.pass(1);
            check.same("one state", post.undo(), 0);
            check.raises("it was dropped", Posts.STATE, post::undo);
            check.raises("undo saves none", Posts.STATE, post::undo);
            post.solve(0);
            check.same("one state again", post.undo(), 0);
        });
    }

    // ---- promise 36

    private static void digest(Sentences sentences) {
        sentences.test("Promise 36", "Computes a hash of the state. The hash starts at 725. For each value v of the "
                + "following list, in order, the hash becomes 31 * hash + v, in long arithmetic with overflow "
                + "(a boolean is 1 for true, 0 for false): the values of time(), remembered(), ticksUntilForgetting(), "
                + "solved(), questions(), hits(); for each zone parentOf(), depthOf(), referralLeft(), questionsTo(); "
                + "for each riddle kindOf(), valueOf(), truthOf(), rememberedOf(), ticksLeftOf(), isOutOfDate(), "
                + "wouldSolve(), costOf().", check -> {
            RiddlePost late = Posts.at(9999);
            late.solve(35);
            RiddlePost outOfDate = Posts.fullMemory();
            outOfDate.setAnswer(0, 1, 1);
            for (RiddlePost post : new RiddlePost[] {new RiddlePost(), Posts.busy(), Posts.line(), Posts.chain(7),
                Posts.fullMemory(), Posts.hitsOnly(9), late, outOfDate}) {
                long digest = post.digest();
                check.same("digest again", post.digest(), digest);
                check.same("digest", digest, hash(post));
            }
            Posts.asksOnly(check, "digest()", Posts::busy, RiddlePost::digest);
            Posts.asksOnly(check, "digest() at the last time", () -> Posts.at(9999), RiddlePost::digest);
        });
        // The numbers were reckoned outside of Java.
        sentences.test("Promise 36", "Returns the hash.", check -> {
            check.same("a new object", new RiddlePost().digest(), 8285901248119760189L);
            check.same("a full memory", Posts.fullMemory().digest(), 842530991875994075L);
            RiddlePost post = Posts.fullMemory();
            post.setAnswer(35, 99, 9);
            post.pass(4);
            check.same("a full memory in its last tick", post.digest(), -8365178072208719073L);
        });
    }

    private static long hash(RiddlePost post) {
        List<Integer> values = new ArrayList<>(List.of(post.time(), post.remembered(), post.ticksUntilForgetting(),
                post.solved(), post.questions(), post.hits()));
        for (int zone = 0; zone < 6; zone++) {
            values.addAll(List.of(post.parentOf(zone), post.depthOf(zone), post.referralLeft(zone),
                    post.questionsTo(zone)));
        }
        for (int riddle = 0; riddle < 36; riddle++) {
            values.addAll(List.of(post.kindOf(riddle), post.valueOf(riddle), post.truthOf(riddle),
                    post.rememberedOf(riddle), post.ticksLeftOf(riddle), post.isOutOfDate(riddle) ? 1 : 0,
                    post.wouldSolve(riddle), post.costOf(riddle)));
        }
        long hash = 725;
        for (int value : values) {
            hash = 31 * hash + value;
        }
        return hash;
    }
}
