import java.util.ArrayList;
import java.util.List;
import java.util.function.Consumer;
import java.util.function.Function;
import java.util.function.IntConsumer;
import java.util.function.Supplier;

/** Posts made ready for a test, and what one asks of them again and again. */
final class Posts {
    static final Class<IndexOutOfBoundsException> INDEX = IndexOutOfBoundsException.class;
    static final Class<IllegalArgumentException> ARGUMENT = IllegalArgumentException.class;
    static final Class<IllegalStateException> STATE = IllegalStateException.class;

    private Posts() {
    }

    /** A post at a time of 0 to 9999. */
    static RiddlePost at(int time) {
        RiddlePost post = new RiddlePost();
        int left = time;
        while (left > 0) {
            int ticks = Math.min(left, 99);
            post.pass(ticks);
            left -= ticks;
        }
        return post;
    }

    /** The zones stand in a line: zone 5 below 4 below 3 and so on. */
    static RiddlePost line() {
        RiddlePost post = new RiddlePost();
        for (int zone = 1; zone < 6; zone++) {
            post.setParent(zone, zone - 1);
        }
        return post;
    }

    /** References from 0 to 1 to 2 and so on, the given number of them, each for 50; then the answer 66. */
    static RiddlePost chain(int references) {
        RiddlePost post = new RiddlePost();
        for (int riddle = 0; riddle < references; riddle++) {
            post.setReference(riddle, riddle + 1, 50);
        }
        post.setAnswer(references, 66, 50);
        return post;
    }

    /** All that can be remembered is: 5 referrals that end at 20, and 36 refusals that end at 5. */
    static RiddlePost fullMemory() {
        RiddlePost post = new RiddlePost();
        for (int riddle = 0; riddle < 36; riddle++) {
            post.solve(riddle);
        }
        return post;
    }

    /** Something of each kind: other parents and ages, answers, references, a memory, a text, saved states. */
    static RiddlePost busy() {
        RiddlePost post = at(30);
        post.setParent(5, 3);
        post.setAges(1, 33, 44);
        post.setAges(5, 11, 22);
        post.setAnswer(30, 8, 9);
        post.setReference(0, 30, 40);
        post.setReference(1, 0, 41);
        post.solve(1);
        post.solve(13);
        post.setAnswer(30, 9, 19);
        write(post, "?1,+3,?20");
        return post;
    }

    /** A riddle of the root was asked once, and then taken from the memory up to so many times in all. */
    static RiddlePost hitsOnly(int times) {
        RiddlePost post = new RiddlePost();
        for (int time = 0; time < times; time++) {
            post.solve(0);
        }
        return post;
    }

    static RiddlePost written(String text) {
        RiddlePost post = new RiddlePost();
        write(post, text);
        return post;
    }

    static void write(RiddlePost post, String text) {
        for (int place = 0; place < text.length(); place++) {
            post.append(text.charAt(place));
        }
    }

    /** How many states a post has saved; they are undone by this. */
    static int countSaved(RiddlePost post) {
        int count = 0;
        while (count < 100) {
            try {
                post.undo();
            } catch (IllegalStateException none) {
                return count;
            }
            count++;
        }
        return count;
    }

    /** All that a post tells of its state, without changing it. */
    static String told(RiddlePost post) {
        StringBuilder told = new StringBuilder();
        told.append(post.digest()).append(' ').append(post.rememberedByAccount());
        told.append(' ').append(post.meanQuestions()).append(' ').append(post.firstError());
        for (int riddle = 0; riddle < 36; riddle++) {
            told.append(' ').append(post.ticksUntilTruth(riddle));
        }
        return told.toString();
    }

    /** What shows in what a post answers only later on: ages, saved states, the text. */
    private static final List<Function<RiddlePost, String>> PROBES = List.of(
            Posts::told, Posts::toldByAges, Posts::toldByUndo, Posts::toldByText);

    private static String toldByAges(RiddlePost post) {
        if (post.time() + 99 <= 9999) {
            post.pass(99);
        }
        for (int zone = 5; zone >= 0; zone--) {
            post.solve(6 * zone + 5);
        }
        post.solve(30);
        return told(post);
    }

    private static String toldByUndo(RiddlePost post) {
        StringBuilder told = new StringBuilder();
        for (int times = 0; times < 10; times++) {
            try {
                told.append(post.undo()).append(": ").append(told(post)).append('\n');
            } catch (IllegalStateException none) {
                told.append("none\n");
            }
        }
        return told.toString();
    }

    private static String toldByText(RiddlePost post) {
        StringBuilder told = new StringBuilder();
        try {
            told.append(post.runActs()).append(" acts: ").append(told(post));
        } catch (IllegalStateException noActs) {
            told.append("no acts, error at ").append(post.firstError());
        }
        return told.append(" text ").append(post.clearText()).toString();
    }

    /** The call throws what is due, and a post with it answers all later calls as a post without it. */
    static void refuses(Check check, String call, Class<? extends RuntimeException> due,
            Supplier<RiddlePost> maker, Consumer<RiddlePost> refused) {
        for (Function<RiddlePost, String> probe : PROBES) {
            RiddlePost post = maker.get();
            check.raises(call, due, () -> refused.accept(post));
            check.sameText(call + " changes nothing", probe.apply(post), probe.apply(maker.get()));
        }
    }

    /** The call answers what it answers and changes nothing. */
    static void asksOnly(Check check, String call, Supplier<RiddlePost> maker, Consumer<RiddlePost> asking) {
        for (Function<RiddlePost, String> probe : PROBES) {
            RiddlePost post = maker.get();
            asking.accept(post);
            asking.accept(post);
            check.sameText(call + " changes nothing", probe.apply(post), probe.apply(maker.get()));
        }
    }

    /** The call saves one state, and undo brings it back; the states that were saved before lie under it. */
    static void undoable(Check check, String call, Supplier<RiddlePost> maker, Consumer<RiddlePost> calling) {
        RiddlePost post = maker.get();
        RiddlePost twin = maker.get();
        int saved = countSaved(maker.get());
        calling.accept(post);
        check.same(call + " saves one state", post.undo(), Math.min(saved, 5));
        check.sameText(call + " is undone", toldButText(post), toldButText(twin));
        if (saved > 0) {
            post.undo();
            twin.undo();
        }
        check.sameText(call + " saves no second state", toldButText(post), toldButText(twin));
    }

    private static String toldButText(RiddlePost post) {
        return post.digest() + " " + post.rememberedByAccount() + " " + post.meanQuestions();
    }

    /** Numbers outside of a range: the next ones, the outermost ones, and such as lie inside if bits are lost. */
    static List<Integer> outside(int lowest, int highest) {
        List<Integer> numbers = new ArrayList<>(List.of(lowest - 1, highest + 1, lowest - 100, highest + 100,
                lowest + 256, lowest - 256, lowest + 65536, lowest - 65536, highest + 256, highest + 65536,
                Integer.MIN_VALUE, Integer.MAX_VALUE, Integer.MIN_VALUE + lowest, Integer.MIN_VALUE + highest,
                -lowest - 1, -highest - 1));
        numbers.removeIf(number -> number >= lowest && number <= highest);
        return numbers;
    }

    /** Each number outside of the range is refused by the call, for the exception that is due. */
    static void refusesOutside(Check check, String call, int lowest, int highest,
            Class<? extends RuntimeException> due, IntConsumer calling) {
        for (int number : outside(lowest, highest)) {
            check.raises(call + " of " + number, due, () -> calling.accept(number));
        }
    }

    /** The last allowed numbers on either side are not refused, and the next ones are. */
    static void bounds(Check check, String call, int lowest, int highest,
            Class<? extends RuntimeException> due, IntConsumer calling) {
        check.passes(call + " of the lowest, " + lowest, () -> calling.accept(lowest));
        check.passes(call + " of the highest, " + highest, () -> calling.accept(highest));
        refusesOutside(check, call, lowest, highest, due, calling);
    }
}
