import java.util.ArrayDeque;
import java.util.ArrayList;
import java.util.Deque;
import java.util.List;
import java.util.Map;
import java.util.TreeMap;
import java.util.regex.Matcher;
import java.util.regex.Pattern;

/** Long runs of calls on the class and on a model that is built another way; all answers must be the same. */
public final class RiddlePostModelTest {
    private static final int RUNS = 3000;
    private static final int MOST_CALLS = 512;
    private static final Check CHECK = new Check();
    private static int calls;

    private RiddlePostModelTest() {
    }

    /** A reply, or what a riddle has; the ticks are an age or the time of the end. */
    record Reply(int kind, int value, int ticks) {
    }

    /** The state, copied as a whole for undo and forecasts; what is not remembered is in no map. */
    static final class World {
        int time;
        int[] parents = {-1, 0, 0, 1, 1, 2};
        int[] referralAges = {20, 20, 20, 20, 20, 20};
        int[] refusalAges = {5, 5, 5, 5, 5, 5};
        Map<Integer, Reply> truths = new TreeMap<>();
        Map<Integer, Reply> replies = new TreeMap<>();
        Map<Integer, Integer> referrals = new TreeMap<>();
        int solved;
        int hits;
        int[] asked = new int[6];

        World copy() {
            World copy = new World();
            copy.time = time;
            copy.parents = parents.clone();
            copy.referralAges = referralAges.clone();
            copy.refusalAges = refusalAges.clone();
            copy.truths = new TreeMap<>(truths);
            copy.replies = new TreeMap<>(replies);
            copy.referrals = new TreeMap<>(referrals);
            copy.solved = solved;
            copy.hits = hits;
            copy.asked = asked.clone();
            return copy;
        }

        World withoutMemory() {
            World copy = copy();
            copy.replies.clear();
            copy.referrals.clear();
            return copy;
        }

        int questions() {
            int sum = 0;
            for (int zone : asked) {
                sum += zone;
            }
            return sum;
        }

        int solve(int riddle) {
            solved++;
            return follow(riddle, 0);
        }

        private int follow(int riddle, int followed) {
            Reply reply = replies.get(riddle);
            if (reply == null) {
                come(riddle / 6);
                asked[riddle / 6]++;
                Reply truth = truths.get(riddle);
                reply = truth == null ? new Reply(RiddlePost.REFUSAL, -1, time + refusalAges[riddle / 6])
                        : new Reply(truth.kind, truth.value, time + truth.ticks);
                replies.put(riddle, reply);
            } else {
                hits++;
            }
            if (reply.kind != RiddlePost.REFERENCE) {
                return reply.kind == RiddlePost.ANSWER ? reply.value : RiddlePost.NONE;
            }
            return followed == 6 ? RiddlePost.TOO_LONG : follow(reply.value, followed + 1);
        }

        private void come(int zone) {
            if (zone == 0 || referrals.containsKey(zone)) {
                return;
            }
            come(parents[zone]);
            asked[parents[zone]]++;
            referrals.put(zone, time + referralAges[parents[zone]]);
        }

        int pass(int ticks) {
            int before = replies.size() + referrals.size();
            for (int tick = 0; tick < ticks; tick++) {
                time++;
                replies.values().removeIf(reply -> reply.ticks == time);
                referrals.values().removeIf(end -> end == time);
            }
            return before - replies.size() - referrals.size();
        }

        int next() {
            int next = Integer.MAX_VALUE;
            for (Reply reply : replies.values()) {
                next = Math.min(next, reply.ticks - time);
            }
            for (int end : referrals.values()) {
                next = Math.min(next, end - time);
            }
            return next == Integer.MAX_VALUE ? -1 : next;
        }

        boolean outOfDate(int riddle) {
            if (!replies.containsKey(riddle)) {
                return false;
            }
            World asking = withoutMemory();
            asking.follow(riddle, 0);
            Reply fresh = asking.replies.get(riddle);
            Reply old = replies.get(riddle);
            return fresh.kind != old.kind || fresh.value != old.value;
        }

        int untilTruth(int riddle) {
            int truth = withoutMemory().solve(riddle);
            World later = copy();
            for (int ticks = 0; ; ticks++) {
                if (later.copy().solve(riddle) == truth) {
                    return ticks;
                }
                later.pass(1);
            }
        }

        int cost(int riddle) {
            World trial = copy();
            trial.solve(riddle);
            return trial.questions() - questions();
        }

        int depth(int zone) {
            return zone == 0 ? 0 : 1 + depth(parents[zone]);
        }

        int kind(int riddle) {
            return truths.containsKey(riddle) ? truths.get(riddle).kind : RiddlePost.NOTHING;
        }

        int value(int riddle) {
            return truths.containsKey(riddle) ? truths.get(riddle).value : -1;
        }
    }

    /** The calls that are compared, each answered as a text; an exception is answered by its name. */
    static final class Model {
        private static final String ITEM = "(\\?([0-9]|[12][0-9]|3[0-5])|\\+[1-9][0-9]?)";
        private static final Pattern ACTS = Pattern.compile(ITEM + "(," + ITEM + ")*");
        private static final String INDEX = "IndexOutOfBoundsException";
        private static final String ARGUMENT = "IllegalArgumentException";
        private static final String STATE = "IllegalStateException";
        World world = new World();
        Deque<World> saved = new ArrayDeque<>();
        StringBuilder text = new StringBuilder();

        private void save() {
            saved.addLast(world.copy());
            if (saved.size() > 6) {
                saved.removeFirst();
            }
        }

        private static boolean noZone(int zone) {
            return zone < 0 || zone > 5;
        }

        private static boolean noRiddle(int riddle) {
            return riddle < 0 || riddle > 35;
        }

        private static boolean noAge(int age) {
            return age < 1 || age > 99;
        }

        String change(String name, int a, int b, int c) {
            switch (name) {
                case "setParent": return setParent(a, b);
                case "setAges": return setAges(a, b, c);
                case "setAnswer":
                    if (noRiddle(a)) return INDEX;
                    return b < 0 || b > 99 || noAge(c) ? ARGUMENT : put(a, new Reply(RiddlePost.ANSWER, b, c));
                case "setReference":
                    if (noRiddle(a) || noRiddle(b)) return INDEX;
                    return a == b || noAge(c) ? ARGUMENT : put(a, new Reply(RiddlePost.REFERENCE, b, c));
                case "takeAway":
                    if (noRiddle(a)) return INDEX;
                    return world.truths.containsKey(a) ? put(a, null) : STATE;
                case "solve":
                    if (noRiddle(a)) return INDEX;
                    save();
                    return "" + world.solve(a);
                case "forget":
                    if (noRiddle(a)) return INDEX;
                    if (!world.replies.containsKey(a)) return STATE;
                    save();
                    return "" + world.replies.remove(a).kind;
                case "pass":
                    if (noAge(a)) return ARGUMENT;
                    if (world.time + a > 9999) return STATE;
                    save();
                    return "" + world.pass(a);
                case "append":
                    if (a < 33 || a > 126) return ARGUMENT;
                    if (text.length() == 60) return STATE;
                    return "" + text.append((char) a).length();
                case "clearText":
                    int length = text.length();
                    text.setLength(0);
                    return "" + length;
                case "runActs": return runActs();
                case "undo":
                    if (saved.isEmpty()) return STATE;
                    world = saved.removeLast();
                    return "" + saved.size();
                default: throw new AssertionError(name);
            }
        }

        private String setParent(int zone, int parent) {
            if (noZone(zone) || zone == 0) return INDEX;
            if (parent < 0 || parent >= zone) return ARGUMENT;
            save();
            int before = world.parents[zone];
            world.parents[zone] = parent;
            return "" + before;
        }

        private String setAges(int zone, int referrals, int refusals) {
            if (noZone(zone)) return INDEX;
            if (noAge(referrals) || noAge(refusals)) return ARGUMENT;
            save();
            int before = world.referralAges[zone];
            world.referralAges[zone] = referrals;
            world.refusalAges[zone] = refusals;
            return "" + before;
        }

        private String put(int riddle, Reply truth) {
            save();
            Reply before = truth == null ? world.truths.remove(riddle) : world.truths.put(riddle, truth);
            return "" + (before == null ? RiddlePost.NOTHING : before.kind);
        }

        private String runActs() {
            if (!ACTS.matcher(text).matches()) return STATE;
            save();
            int happened = 0;
            for (String act : text.toString().split(",")) {
                int number = Integer.parseInt(act.substring(1));
                if (act.charAt(0) == '+' && world.time + number > 9999) {
                    break;
                }
                if (act.charAt(0) == '+') {
                    world.pass(number);
                } else {
                    world.solve(number);
                }
                happened++;
            }
            text.setLength(0);
            return "" + happened;
        }

        private int firstError() {
            if (ACTS.matcher(text).matches()) {
                return -1;
            }
            for (int length = 1; length <= text.length(); length++) {
                Matcher start = ACTS.matcher(text.substring(0, length));
                if (!start.matches() && !start.hitEnd()) {
                    return length - 1;
                }
            }
            return text.length();
        }

        String tell(String name, int a) {
            switch (name) {
                case "parentOf": return noZone(a) ? INDEX : "" + world.parents[a];
                case "depthOf": return noZone(a) ? INDEX : "" + world.depth(a);
                case "referralLeft":
                    return noZone(a) ? INDEX
                            : "" + (world.referrals.containsKey(a) ? world.referrals.get(a) - world.time : -1);
                case "questionsTo": return noZone(a) ? INDEX : "" + world.asked[a];
                case "time": return "" + world.time;
                case "remembered":
                case "rememberedByAccount": return "" + (world.replies.size() + world.referrals.size());
                case "ticksUntilForgetting": return "" + world.next();
                case "solved": return "" + world.solved;
                case "questions": return "" + world.questions();
                case "hits": return "" + world.hits;
                case "meanQuestions":
                    return "" + (world.solved == 0 ? 0.0 : (double) world.questions() / world.solved);
                case "firstError": return "" + firstError();
                case "digest": return "" + digest();
                default: return noRiddle(a) ? INDEX : tellOfRiddle(name, a);
            }
        }

        private String tellOfRiddle(String name, int riddle) {
            Reply reply = world.replies.get(riddle);
            switch (name) {
                case "kindOf": return "" + world.kind(riddle);
                case "valueOf": return "" + world.value(riddle);
                case "truthOf": return "" + world.withoutMemory().solve(riddle);
                case "rememberedOf": return "" + (reply == null ? RiddlePost.NOTHING : reply.kind);
                case "ticksLeftOf": return "" + (reply == null ? -1 : reply.ticks - world.time);
                case "isOutOfDate": return "" + world.outOfDate(riddle);
                case "wouldSolve": return "" + world.copy().solve(riddle);
                case "costOf": return "" + world.cost(riddle);
                case "ticksUntilTruth": return "" + world.untilTruth(riddle);
                default: throw new AssertionError(name);
            }
        }

        private long digest() {
            long hash = 725;
            for (String name : List.of("time", "remembered", "ticksUntilForgetting", "solved", "questions", "hits")) {
                hash = 31 * hash + Long.parseLong(tell(name, 0));
            }
            for (int zone = 0; zone < 6; zone++) {
                for (String name : List.of("parentOf", "depthOf", "referralLeft", "questionsTo")) {
                    hash = 31 * hash + Long.parseLong(tell(name, zone));
                }
            }
            for (int riddle = 0; riddle < 36; riddle++) {
                for (String name : List.of("kindOf", "valueOf", "truthOf", "rememberedOf", "ticksLeftOf",
                        "isOutOfDate", "wouldSolve", "costOf")) {
                    String told = tell(name, riddle);
                    hash = 31 * hash + (told.equals("true") ? 1 : told.equals("false") ? 0 : Long.parseLong(told));
                }
            }
            return hash;
        }
    }

    private static String changed(RiddlePost post, String name, int a, int b, int c) {
        calls++;
        try {
            switch (name) {
                case "setParent": return "" + post.setParent(a, b);
                case "setAges": return "" + post.setAges(a, b, c);
                case "setAnswer": return "" + post.setAnswer(a, b, c);
                case "setReference": return "" + post.setReference(a, b, c);
                case "takeAway": return "" + post.takeAway(a);
                case "solve": return "" + post.solve(a);
                case "forget": return "" + post.forget(a);
                case "pass": return "" + post.pass(a);
                case "append": return "" + post.append(a);
                case "clearText": return "" + post.clearText();
                case "runActs": return "" + post.runActs();
                case "undo": return "" + post.undo();
                default: throw new AssertionError(name);
            }
        } catch (RuntimeException e) {
            return e.getClass().getSimpleName();
        }
    }

    private static String told(RiddlePost post, String name, int a) {
        calls++;
        try {
            switch (name) {
                case "parentOf": return "" + post.parentOf(a);
                case "depthOf": return "" + post.depthOf(a);
                case "referralLeft": return "" + post.referralLeft(a);
                case "questionsTo": return "" + post.questionsTo(a);
                case "time": return "" + post.time();
                case "remembered": return "" + post.remembered();
                case "rememberedByAccount": return "" + post.rememberedByAccount();
                case "ticksUntilForgetting": return "" + post.ticksUntilForgetting();
                case "solved": return "" + post.solved();
                case "questions": return "" + post.questions();
                case "hits": return "" + post.hits();
                case "meanQuestions": return "" + post.meanQuestions();
                case "firstError": return "" + post.firstError();
                case "digest": return "" + post.digest();
                case "kindOf": return "" + post.kindOf(a);
                case "valueOf": return "" + post.valueOf(a);
                case "truthOf": return "" + post.truthOf(a);
                case "rememberedOf": return "" + post.rememberedOf(a);
                case "ticksLeftOf": return "" + post.ticksLeftOf(a);
                case "isOutOfDate": return "" + post.isOutOfDate(a);
                case "wouldSolve": return "" + post.wouldSolve(a);
                case "costOf": return "" + post.costOf(a);
                case "ticksUntilTruth": return "" + post.ticksUntilTruth(a);
                default: throw new AssertionError(name);
            }
        } catch (RuntimeException e) {
            return e.getClass().getSimpleName();
        }
    }

    /** The same numbers in every run of the test. */
    static final class Numbers {
        private long state;

        Numbers(long seed) {
            state = seed;
        }

        int below(int bound) {
            state = state * 6364136223846793005L + 1442695040888963407L;
            return (int) ((state >>> 33) % bound);
        }

        <T> T one(List<T> list) {
            return list.get(below(list.size()));
        }
    }

    private static final List<String> CHANGES = List.of("setParent", "setAges", "setAnswer", "setAnswer",
            "setReference", "setReference", "setReference", "takeAway", "solve", "solve", "solve", "solve",
            "forget", "pass", "pass", "append", "text", "text", "clearText", "runActs", "undo");
    private static final List<String> TELLINGS = List.of("parentOf", "depthOf", "referralLeft", "questionsTo",
            "time", "remembered", "rememberedByAccount", "rememberedByAccount", "ticksUntilForgetting", "solved",
            "questions", "hits", "meanQuestions", "meanQuestions", "firstError", "kindOf", "valueOf", "truthOf",
            "rememberedOf", "ticksLeftOf", "isOutOfDate", "wouldSolve", "costOf", "ticksUntilTruth",
            "ticksUntilTruth", "ticksUntilTruth");

    private static int riddle(Numbers numbers, int riddles) {
        if (numbers.below(60) == 0) {
            return numbers.one(List.of(-1, 36, 37, 1000, Integer.MAX_VALUE, Integer.MIN_VALUE));
        }
        return riddles == 36 ? numbers.below(36) : numbers.below(riddles) * 7 % 36;
    }

    private static int ticks(Numbers numbers) {
        if (numbers.below(40) == 0) {
            return numbers.one(List.of(-1, 0, 100, Integer.MAX_VALUE, Integer.MIN_VALUE));
        }
        return 1 + (numbers.below(3) == 0 ? numbers.below(99) : numbers.below(12));
    }

    private static String randomText(Numbers numbers, int riddles) {
        StringBuilder text = new StringBuilder();
        for (int act = numbers.below(5); act >= 0; act--) {
            text.append(numbers.below(2) == 0 ? "?" + riddle(numbers, riddles) : "+" + ticks(numbers));
            text.append(act > 0 || numbers.below(15) == 0 ? "," : "");
        }
        if (numbers.below(4) == 0) {
            text.setCharAt(numbers.below(text.length()), (char) numbers.one(List.of('0', '3', '?', '+', ',', '-', 'x')).charValue());
        }
        return text.length() > 18 ? text.substring(0, 18) : text.toString();
    }

    private static boolean step(RiddlePost post, Model model, Numbers numbers, int riddles, int run, int step) {
        String name = numbers.one(CHANGES);
        boolean ofZones = name.equals("setParent") || name.equals("setAges");
        int a = ofZones ? numbers.below(8) - 1 : name.equals("pass") ? ticks(numbers)
                : name.equals("append") ? 30 + numbers.below(100) : riddle(numbers, riddles);
        int b = name.equals("setParent") ? numbers.below(7) - 1 : name.equals("setReference") ? riddle(numbers, riddles)
                : name.equals("setAnswer") ? numbers.below(4) + (numbers.below(30) == 0 ? 97 : 0) : ticks(numbers);
        int c = ticks(numbers);
        if (name.equals("text")) {
            return writeAndRun(post, model, randomText(numbers, riddles), run, step);
        }
        String call = "run " + run + " step " + step + " " + name + "(" + a + ", " + b + ", " + c + ")";
        String due = model.change(name, a, b, c);
        String got = changed(post, name, a, b, c);
        CHECK.sameText(call, got, due);
        return due.equals(got);
    }

    private static boolean writeAndRun(RiddlePost post, Model model, String text, int run, int step) {
        String call = "run " + run + " step " + step + " text " + text;
        for (int place = 0; place < text.length(); place++) {
            String due = model.change("append", text.charAt(place), 0, 0);
            CHECK.sameText(call, changed(post, "append", text.charAt(place), 0, 0), due);
        }
        CHECK.sameText(call + " firstError", told(post, "firstError", 0), model.tell("firstError", 0));
        String due = model.change("runActs", 0, 0, 0);
        String got = changed(post, "runActs", 0, 0, 0);
        CHECK.sameText(call + " runActs", got, due);
        if (due.equals("IllegalStateException")) {
            CHECK.sameText(call + " clearText", changed(post, "clearText", 0, 0, 0),
                    model.change("clearText", 0, 0, 0));
        }
        return due.equals(got);
    }

    private static void run(int run) {
        Numbers numbers = new Numbers(run * 7919L + 17);
        int riddles = numbers.one(List.of(3, 6, 8, 9, 12, 36));
        RiddlePost post = new RiddlePost();
        Model model = new Model();
        calls = 0;
        for (int late = run % 10 == 0 ? 101 : 0; late > 0; late--) {
            CHECK.sameText("late", changed(post, "pass", 99, 0, 0), model.change("pass", 99, 0, 0));
        }
        // A step takes at most 23 calls (one with a text), and the undos at the end take 14.
        boolean well = true;
        for (int step = 0; calls <= MOST_CALLS - 23 - 14 && well; step++) {
            well = step(post, model, numbers, riddles, run, step);
            String name = numbers.one(TELLINGS);
            int a = name.equals("parentOf") || name.equals("depthOf") || name.equals("referralLeft")
                    || name.equals("questionsTo") ? numbers.below(8) - 1 : riddle(numbers, riddles);
            CHECK.sameText("run " + run + " step " + step + " " + name + "(" + a + ")",
                    told(post, name, a), model.tell(name, a));
            if (step % 8 == 7) {
                CHECK.sameText("run " + run + " step " + step + " digest", told(post, "digest", 0),
                        model.tell("digest", 0));
            }
        }
        CHECK.same("run " + run + " has few calls", calls <= MOST_CALLS - 14, true);
        for (int times = 0; times < 7 && well; times++) {
            CHECK.sameText("run " + run + " last undo " + times, changed(post, "undo", 0, 0, 0),
                    model.change("undo", 0, 0, 0));
            CHECK.sameText("run " + run + " last digest " + times, told(post, "digest", 0), model.tell("digest", 0));
        }
    }

    public static void main(String[] args) {
        for (int run = 0; run < RUNS; run++) {
            run(run);
        }
        CHECK.end("RiddlePostModelTest");
    }
}
