import java.util.ArrayList;
import java.util.List;
import java.util.function.Consumer;
import java.util.function.Supplier;

/** A call that is refused, on a post that is made for it, with the exception that is due. */
record Refused(String call, Class<? extends RuntimeException> due, Supplier<RiddlePost> maker,
        Consumer<RiddlePost> body) {

    /** Each cause that the document names for an exception, on either side of each range. */
    static List<Refused> list() {
        List<Refused> all = new ArrayList<>();
        for (int zone : new int[] {-1, 6}) {
            add(all, "setParent of zone " + zone, Posts.INDEX, post -> post.setParent(zone, 0));
            add(all, "setAges of zone " + zone, Posts.INDEX, post -> post.setAges(zone, 9, 9));
            add(all, "parentOf " + zone, Posts.INDEX, post -> post.parentOf(zone));
            add(all, "depthOf " + zone, Posts.INDEX, post -> post.depthOf(zone));
            add(all, "referralLeft " + zone, Posts.INDEX, post -> post.referralLeft(zone));
            add(all, "questionsTo " + zone, Posts.INDEX, post -> post.questionsTo(zone));
        }
        add(all, "setParent of the root", Posts.INDEX, post -> post.setParent(0, 0));
        for (int parent : new int[] {-1, 5}) {
            add(all, "setParent to " + parent, Posts.ARGUMENT, post -> post.setParent(5, parent));
        }
        addRiddles(all);
        addAges(all);
        addStates(all);
        return all;
    }

    private static void addRiddles(List<Refused> all) {
        for (int riddle : new int[] {-1, 36}) {
            add(all, "setAnswer of " + riddle, Posts.INDEX, post -> post.setAnswer(riddle, 9, 9));
            add(all, "setReference of " + riddle, Posts.INDEX, post -> post.setReference(riddle, 9, 9));
            add(all, "setReference to " + riddle, Posts.INDEX, post -> post.setReference(9, riddle, 9));
            add(all, "takeAway " + riddle, Posts.INDEX, post -> post.takeAway(riddle));
            add(all, "solve " + riddle, Posts.INDEX, post -> post.solve(riddle));
            add(all, "forget " + riddle, Posts.INDEX, post -> post.forget(riddle));
            add(all, "kindOf " + riddle, Posts.INDEX, post -> post.kindOf(riddle));
            add(all, "valueOf " + riddle, Posts.INDEX, post -> post.valueOf(riddle));
            add(all, "truthOf " + riddle, Posts.INDEX, post -> post.truthOf(riddle));
            add(all, "rememberedOf " + riddle, Posts.INDEX, post -> post.rememberedOf(riddle));
            add(all, "ticksLeftOf " + riddle, Posts.INDEX, post -> post.ticksLeftOf(riddle));
            add(all, "isOutOfDate " + riddle, Posts.INDEX, post -> post.isOutOfDate(riddle));
            add(all, "wouldSolve " + riddle, Posts.INDEX, post -> post.wouldSolve(riddle));
            add(all, "costOf " + riddle, Posts.INDEX, post -> post.costOf(riddle));
            add(all, "ticksUntilTruth " + riddle, Posts.INDEX, post -> post.ticksUntilTruth(riddle));
        }
    }

    private static void addAges(List<Refused> all) {
        for (int age : new int[] {0, 100}) {
            add(all, "setAges, referrals " + age, Posts.ARGUMENT, post -> post.setAges(1, age, 9));
            add(all, "setAges, refusals " + age, Posts.ARGUMENT, post -> post.setAges(1, 9, age));
            add(all, "setAnswer, age " + age, Posts.ARGUMENT, post -> post.setAnswer(30, 9, age));
            add(all, "setReference, age " + age, Posts.ARGUMENT, post -> post.setReference(30, 9, age));
            add(all, "pass " + age, Posts.ARGUMENT, post -> post.pass(age));
        }
        for (int answer : new int[] {-1, 100}) {
            add(all, "setAnswer, answer " + answer, Posts.ARGUMENT, post -> post.setAnswer(30, answer, 9));
        }
        add(all, "setReference to itself", Posts.ARGUMENT, post -> post.setReference(30, 30, 9));
        for (int code : new int[] {32, 127}) {
            add(all, "append " + code, Posts.ARGUMENT, post -> post.append(code));
        }
    }

    private static void addStates(List<Refused> all) {
        add(all, "takeAway of nothing", Posts.STATE, post -> post.takeAway(13));
        add(all, "forget of nothing", Posts.STATE, post -> post.forget(14));
        all.add(new Refused("pass beyond 9999", Posts.STATE, () -> Posts.at(9999), post -> post.pass(1)));
        all.add(new Refused("pass 99 beyond 9999", Posts.STATE, () -> Posts.at(9901), post -> post.pass(99)));
        all.add(new Refused("pass beyond 9999 with ends", Posts.STATE, Refused::lateMemory, post -> post.pass(12)));
        all.add(new Refused("append to the full text", Posts.STATE,
                () -> Posts.written("?5" + ",?22".repeat(14) + ",?"), post -> post.append('1')));
        all.add(new Refused("append to full acts", Posts.STATE,
                () -> Posts.written("?5" + ",?22".repeat(13) + ",?1,?2"), post -> post.append('1')));
        for (String text : new String[] {"", "?", "?1,", "?36", "+0", "x", "?1,?2,?3x"}) {
            all.add(new Refused("runActs of " + text, Posts.STATE, () -> Posts.written(text), RiddlePost::runActs));
        }
        all.add(new Refused("undo of a new object", Posts.STATE, RiddlePost::new, RiddlePost::undo));
        all.add(new Refused("undo when all are undone", Posts.STATE, Refused::allUndone, RiddlePost::undo));
    }

    private static void add(List<Refused> all, String call, Class<? extends RuntimeException> due,
            Consumer<RiddlePost> body) {
        all.add(new Refused(call, due, Posts::busy, body));
    }

    private static RiddlePost lateMemory() {
        RiddlePost post = Posts.at(9988);
        post.solve(35);
        return post;
    }

    private static RiddlePost allUndone() {
        RiddlePost post = Posts.busy();
        Posts.countSaved(post);
        return post;
    }
}
