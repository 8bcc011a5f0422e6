/** At least one test for each promise: ordinary inputs, the edges that are named, and wrong inputs. */
public final class RiddlePostPromisesTest {
    private static final Class<IndexOutOfBoundsException> INDEX = IndexOutOfBoundsException.class;
    private static final Class<IllegalArgumentException> ARGUMENT = IllegalArgumentException.class;
    private static final Class<IllegalStateException> STATE = IllegalStateException.class;
    private static final int NONE = RiddlePost.NONE;
    private static final int TOO_LONG = RiddlePost.TOO_LONG;
    private static final int NOTHING = RiddlePost.NOTHING;
    private static final int ANSWER = RiddlePost.ANSWER;
    private static final int REFERENCE = RiddlePost.REFERENCE;
    private static final int REFUSAL = RiddlePost.REFUSAL;
    private static final int[] NO_NUMBERS = {
        -1, 36, 37, 100, 1000000, Integer.MAX_VALUE, Integer.MIN_VALUE, Integer.MIN_VALUE + 1};

    private static final Check CHECK = new Check();

    private RiddlePostPromisesTest() {
    }

    public static void main(String[] args) {
        constants();
        newObject();
        setParent();
        setParentForgetsNothing();
        setAges();
        setAgesKeepsEnds();
        setAnswer();
        setReference();
        takeAway();
        solveOrdinary();
        solveWay();
        solveReferences();
        solveChainBound();
        solveCircle();
        forget();
        pass();
        passBound();
        zonesAsTheyAre();
        riddlesAsTheyAre();
        truthOf();
        memory();
        memoryByAccount();
        isOutOfDate();
        accounts();
        forecasts();
        costOfKnowsItsOwnWay();
        ticksUntilTruth();
        ticksUntilTruthBeyondTheBound();
        append();
        clearText();
        firstError();
        firstErrorOfFullTexts();
        runActs();
        runActsStops();
        undoSix();
        undoEachMethod();
        undoKeepsText();
        digest();
        wrongZonesAndRiddles();
        throwingChangesNothing();
        throwingSavesNothing();
        firstInTheThrowsClause();
        CHECK.end("RiddlePostPromisesTest");
    }

    private static void constants() {
        CHECK.same("NONE", RiddlePost.NONE, -1);
        CHECK.same("TOO_LONG", RiddlePost.TOO_LONG, -2);
        CHECK.same("NOTHING", RiddlePost.NOTHING, 0);
        CHECK.same("ANSWER", RiddlePost.ANSWER, 1);
        CHECK.same("REFERENCE", RiddlePost.REFERENCE, 2);
        CHECK.same("REFUSAL", RiddlePost.REFUSAL, 3);
    }

    // Promise 1
    private static void newObject() {
        RiddlePost post = new RiddlePost();
        CHECK.same("new time", post.time(), 0);
        CHECK.same("new remembered", post.remembered(), 0);
        CHECK.same("new rememberedByAccount", post.rememberedByAccount(), 0);
        CHECK.same("new ticksUntilForgetting", post.ticksUntilForgetting(), NONE);
        CHECK.same("new solved", post.solved(), 0);
        CHECK.same("new questions", post.questions(), 0);
        CHECK.same("new hits", post.hits(), 0);
        CHECK.sameDouble("new meanQuestions", post.meanQuestions(), 0.0);
        CHECK.same("new clearText", post.clearText(), 0);
        CHECK.raises("new undo", STATE, post::undo);
        int[] parents = {NONE, 0, 0, 1, 1, 2};
        int[] depths = {0, 1, 1, 2, 2, 2};
        for (int zone = 0; zone < 6; zone++) {
            CHECK.same("new parentOf " + zone, post.parentOf(zone), parents[zone]);
            CHECK.same("new depthOf " + zone, post.depthOf(zone), depths[zone]);
            CHECK.same("new referralLeft " + zone, post.referralLeft(zone), NONE);
            CHECK.same("new questionsTo " + zone, post.questionsTo(zone), 0);
        }
        for (int riddle = 0; riddle < 36; riddle++) {
            CHECK.same("new kindOf " + riddle, post.kindOf(riddle), NOTHING);
            CHECK.same("new valueOf " + riddle, post.valueOf(riddle), NONE);
            CHECK.same("new truthOf " + riddle, post.truthOf(riddle), NONE);
            CHECK.same("new rememberedOf " + riddle, post.rememberedOf(riddle), NOTHING);
            CHECK.same("new ticksLeftOf " + riddle, post.ticksLeftOf(riddle), NONE);
            CHECK.same("new isOutOfDate " + riddle, post.isOutOfDate(riddle), false);
            CHECK.same("new costOf " + riddle, post.costOf(riddle), depths[riddle / 6] + 1);
        }
        for (int zone = 0; zone < 6; zone++) {
            CHECK.same("first age for referrals of " + zone, post.setAges(zone, 20, 1), 20);
        }
    }

    // Promise 2
    private static void setParent() {
        RiddlePost post = new RiddlePost();
        CHECK.same("setParent(5, 4)", post.setParent(5, 4), 2);
        CHECK.same("setParent(5, 0)", post.setParent(5, 0), 4);
        CHECK.same("parentOf(5)", post.parentOf(5), 0);
        CHECK.same("depthOf(5)", post.depthOf(5), 1);
        CHECK.same("setParent(1, 0)", post.setParent(1, 0), 0);
        CHECK.same("setParent(2, 1)", post.setParent(2, 1), 0);
        CHECK.same("setParent(2, 1) again", post.setParent(2, 1), 1);
        CHECK.same("depthOf(2)", post.depthOf(2), 2);
        for (int zone : new int[] {0, -1, 6, Integer.MAX_VALUE, Integer.MIN_VALUE}) {
            CHECK.raises("setParent(" + zone + ", 0)", INDEX, () -> post.setParent(zone, 0));
        }
        for (int zone = 1; zone < 6; zone++) {
            int child = zone;
            for (int parent : new int[] {-1, zone, zone + 1, Integer.MAX_VALUE, Integer.MIN_VALUE}) {
                CHECK.raises("setParent(" + zone + ", " + parent + ")", ARGUMENT,
                        () -> post.setParent(child, parent));
            }
        }
    }

    private static void setParentForgetsNothing() {
        RiddlePost post = new RiddlePost();
        post.solve(30);
        CHECK.same("remembered before", post.remembered(), 3);
        post.setParent(5, 4);
        CHECK.same("remembered after", post.remembered(), 3);
        CHECK.same("referral stays", post.referralLeft(5), 20);
        CHECK.same("referral still used", post.costOf(31), 1);
    }

    // Promise 3
    private static void setAges() {
        RiddlePost post = new RiddlePost();
        CHECK.same("setAges(0, 1, 99)", post.setAges(0, 1, 99), 20);
        CHECK.same("setAges(0, 99, 1)", post.setAges(0, 99, 1), 1);
        CHECK.same("setAges(0, 7, 8)", post.setAges(0, 7, 8), 99);
        CHECK.same("setAges(5, 3, 4)", post.setAges(5, 3, 4), 20);
        for (int zone : new int[] {-1, 6, Integer.MAX_VALUE, Integer.MIN_VALUE}) {
            CHECK.raises("setAges(" + zone + ", 1, 1)", INDEX, () -> post.setAges(zone, 1, 1));
        }
        for (int age : new int[] {0, -1, 100, Integer.MAX_VALUE, Integer.MIN_VALUE}) {
            CHECK.raises("setAges(1, " + age + ", 1)", ARGUMENT, () -> post.setAges(1, age, 1));
            CHECK.raises("setAges(1, 1, " + age + ")", ARGUMENT, () -> post.setAges(1, 1, age));
        }
        CHECK.same("setAges(1, 1, 1)", post.setAges(1, 1, 1), 20);
        post.solve(0);
        CHECK.same("age for refusals of the root", post.ticksLeftOf(0), 8);
        post.solve(12);
        CHECK.same("age for referrals is the asked zone's", post.referralLeft(2), 7);
        CHECK.same("age for refusals of zone 2", post.ticksLeftOf(12), 5);
        post.solve(33);
        CHECK.same("referral by zone 2", post.referralLeft(5), 20);
        CHECK.same("age for refusals of zone 5", post.ticksLeftOf(33), 4);
    }

    private static void setAgesKeepsEnds() {
        RiddlePost post = new RiddlePost();
        post.solve(6);
        post.setAges(0, 1, 1);
        post.setAges(1, 1, 1);
        CHECK.same("referral keeps its end", post.referralLeft(1), 20);
        CHECK.same("refusal keeps its end", post.ticksLeftOf(6), 5);
        post.setAnswer(6, 1, 99);
        CHECK.same("reply keeps its end", post.ticksLeftOf(6), 5);
    }

    // Promise 4
    private static void setAnswer() {
        RiddlePost post = new RiddlePost();
        CHECK.same("setAnswer(35, 99, 99)", post.setAnswer(35, 99, 99), NOTHING);
        CHECK.same("kindOf(35)", post.kindOf(35), ANSWER);
        CHECK.same("valueOf(35)", post.valueOf(35), 99);
        CHECK.same("setAnswer(35, 0, 1)", post.setAnswer(35, 0, 1), ANSWER);
        CHECK.same("valueOf(35) then", post.valueOf(35), 0);
        CHECK.same("solve(35)", post.solve(35), 0);
        CHECK.same("ticksLeftOf(35)", post.ticksLeftOf(35), 1);
        post.setReference(0, 35, 5);
        CHECK.same("setAnswer over a reference", post.setAnswer(0, 35, 6), REFERENCE);
        CHECK.same("kindOf(0)", post.kindOf(0), ANSWER);
        CHECK.same("solve(0)", post.solve(0), 35);
        CHECK.same("ticksLeftOf(0)", post.ticksLeftOf(0), 6);
        for (int wrong : new int[] {-1, 100, Integer.MAX_VALUE, Integer.MIN_VALUE}) {
            CHECK.raises("setAnswer(0, " + wrong + ", 1)", ARGUMENT, () -> post.setAnswer(0, wrong, 1));
            CHECK.raises("setAnswer(0, 1, " + wrong + ")", ARGUMENT, () -> post.setAnswer(0, 1, wrong));
        }
        CHECK.raises("setAnswer(0, 1, 0)", ARGUMENT, () -> post.setAnswer(0, 1, 0));
        CHECK.same("valueOf(0) stays", post.valueOf(0), 35);
    }

    // Promise 5
    private static void setReference() {
        RiddlePost post = new RiddlePost();
        CHECK.same("setReference(0, 35, 99)", post.setReference(0, 35, 99), NOTHING);
        CHECK.same("kindOf(0)", post.kindOf(0), REFERENCE);
        CHECK.same("valueOf(0)", post.valueOf(0), 35);
        CHECK.same("setReference(0, 1, 1)", post.setReference(0, 1, 1), REFERENCE);
        CHECK.same("valueOf(0) then", post.valueOf(0), 1);
        post.setAnswer(1, 5, 5);
        CHECK.same("setReference over an answer", post.setReference(1, 0, 5), ANSWER);
        CHECK.same("valueOf(1)", post.valueOf(1), 0);
        for (int none : NO_NUMBERS) {
            CHECK.raises("setReference(" + none + ", 1, 1)", INDEX, () -> post.setReference(none, 1, 1));
            CHECK.raises("setReference(1, " + none + ", 1)", INDEX, () -> post.setReference(1, none, 1));
            CHECK.raises("setReference(n, n, 1)", INDEX, () -> post.setReference(none, none, 1));
        }
        for (int age : new int[] {0, -1, 100, Integer.MAX_VALUE, Integer.MIN_VALUE}) {
            CHECK.raises("setReference(2, 3, " + age + ")", ARGUMENT, () -> post.setReference(2, 3, age));
        }
        for (int riddle : new int[] {0, 2, 35}) {
            CHECK.raises("setReference(r, r, 1)", ARGUMENT, () -> post.setReference(riddle, riddle, 1));
        }
        CHECK.same("kindOf(2) stays", post.kindOf(2), NOTHING);
    }

    // Promise 6
    private static void takeAway() {
        RiddlePost post = new RiddlePost();
        CHECK.raises("takeAway(3) of nothing", STATE, () -> post.takeAway(3));
        post.setAnswer(3, 8, 9);
        post.solve(3);
        CHECK.same("takeAway of an answer", post.takeAway(3), ANSWER);
        CHECK.same("kindOf(3)", post.kindOf(3), NOTHING);
        CHECK.same("valueOf(3)", post.valueOf(3), NONE);
        CHECK.same("what is remembered stays", post.rememberedOf(3), ANSWER);
        CHECK.raises("takeAway(3) again", STATE, () -> post.takeAway(3));
        post.setReference(3, 4, 9);
        CHECK.same("takeAway of a reference", post.takeAway(3), REFERENCE);
        CHECK.same("truthOf(3)", post.truthOf(3), NONE);
    }

    // Promise 7
    private static void solveOrdinary() {
        RiddlePost post = new RiddlePost();
        post.setAnswer(0, 42, 3);
        CHECK.same("solve an answer", post.solve(0), 42);
        CHECK.same("its kind", post.rememberedOf(0), ANSWER);
        CHECK.same("it ends by its age", post.ticksLeftOf(0), 3);
        CHECK.same("one question", post.questions(), 1);
        post.setAnswer(0, 43, 50);
        CHECK.same("a remembered answer is taken", post.solve(0), 42);
        CHECK.same("a hit costs nothing", post.questions(), 1);
        CHECK.same("it is a hit", post.hits(), 1);
        CHECK.same("a hit does not renew the end", post.ticksLeftOf(0), 3);
        post.pass(3);
        CHECK.same("the new answer afterwards", post.solve(0), 43);
        CHECK.same("its end", post.ticksLeftOf(0), 50);
        CHECK.same("solve nothing", post.solve(1), NONE);
        CHECK.same("a refusal is remembered", post.rememberedOf(1), REFUSAL);
        post.setAnswer(1, 7, 7);
        CHECK.same("a remembered refusal is taken", post.solve(1), NONE);
        CHECK.same("and is a hit", post.hits(), 2);
        for (int none : NO_NUMBERS) {
            CHECK.raises("solve(" + none + ")", INDEX, () -> post.solve(none));
        }
    }

    private static void solveWay() {
        RiddlePost post = new RiddlePost();
        CHECK.same("solve(18) in zone 3", post.solve(18), NONE);
        CHECK.same("questions", post.questions(), 3);
        CHECK.same("root asked", post.questionsTo(0), 1);
        CHECK.same("zone 1 asked", post.questionsTo(1), 1);
        CHECK.same("zone 3 asked", post.questionsTo(3), 1);
        CHECK.same("zone 2 not asked", post.questionsTo(2), 0);
        CHECK.same("referral to 1", post.referralLeft(1), 20);
        CHECK.same("referral to 3", post.referralLeft(3), 20);
        CHECK.same("solve(24) in zone 4", post.solve(24), NONE);
        CHECK.same("from zone 1 on", post.questions(), 5);
        CHECK.same("root not asked again", post.questionsTo(0), 1);
        CHECK.same("zone 1 asked again", post.questionsTo(1), 2);
        CHECK.same("solve(19)", post.solve(19), NONE);
        CHECK.same("zone 3 at once", post.questions(), 6);
        post.pass(10);
        post.setAges(1, 50, 1);
        post.solve(20);
        CHECK.same("a referral that is used keeps its end", post.referralLeft(3), 10);
        post.setParent(5, 3);
        post.solve(30);
        CHECK.same("from zone 3 to zone 5", post.questionsTo(3), 4);
        post.pass(10);
        CHECK.same("referral to 1 forgotten", post.referralLeft(1), NONE);
        CHECK.same("referral to 5 stays", post.referralLeft(5), 10);
        CHECK.same("begins at zone 5 still", post.costOf(31), 1);
    }

    private static void solveReferences() {
        RiddlePost post = new RiddlePost();
        post.setReference(0, 6, 10);
        post.setReference(6, 12, 11);
        post.setAnswer(12, 77, 12);
        CHECK.same("solve(0)", post.solve(0), 77);
        CHECK.same("rememberedOf(0)", post.rememberedOf(0), REFERENCE);
        CHECK.same("rememberedOf(6)", post.rememberedOf(6), REFERENCE);
        CHECK.same("rememberedOf(12)", post.rememberedOf(12), ANSWER);
        CHECK.same("ends", post.ticksLeftOf(0) * 10000 + post.ticksLeftOf(6) * 100 + post.ticksLeftOf(12), 101112);
        CHECK.same("questions", post.questions(), 5);
        CHECK.same("solved", post.solved(), 1);
        post.setReference(0, 5, 10);
        CHECK.same("the remembered reference is followed", post.solve(0), 77);
        CHECK.same("three hits", post.hits(), 3);
        post.takeAway(12);
        post.forget(12);
        CHECK.same("a chain to nothing", post.solve(0), NONE);
        CHECK.same("two more hits", post.hits(), 5);
    }

    /** References from 0 to 1 to 2 and so on, the given number of them; the last one has an answer. */
    private static RiddlePost chain(int references) {
        RiddlePost post = new RiddlePost();
        for (int riddle = 0; riddle < references; riddle++) {
            post.setReference(riddle, riddle + 1, 50);
        }
        post.setAnswer(references, 66, 50);
        return post;
    }

    private static void solveChainBound() {
        RiddlePost six = chain(6);
        CHECK.same("six references: truthOf", six.truthOf(0), 66);
        CHECK.same("six references: wouldSolve", six.wouldSolve(0), 66);
        CHECK.same("six references: costOf", six.costOf(0), 8);
        CHECK.same("six references: solve", six.solve(0), 66);
        RiddlePost seven = chain(7);
        CHECK.same("seven references: truthOf", seven.truthOf(0), TOO_LONG);
        CHECK.same("seven references: wouldSolve", seven.wouldSolve(0), TOO_LONG);
        CHECK.same("seven references: costOf", seven.costOf(0), 8);
        CHECK.same("seven references: solve", seven.solve(0), TOO_LONG);
        CHECK.same("the seventh is not followed", seven.rememberedOf(7), NOTHING);
        CHECK.same("the seventh is remembered", seven.rememberedOf(6), REFERENCE);
        CHECK.same("questions of a long chain", seven.questions(), 8);
        CHECK.same("from 1 on it is not too long", seven.solve(1), 66);
        CHECK.same("hits from 1 on", seven.hits(), 6);
        CHECK.same("still too long with a memory", seven.solve(0), TOO_LONG);
        CHECK.same("hits of a long chain", seven.hits(), 13);
    }

    private static void solveCircle() {
        RiddlePost post = new RiddlePost();
        post.setReference(6, 12, 9);
        post.setReference(12, 6, 9);
        CHECK.same("truthOf of a circle", post.truthOf(6), TOO_LONG);
        CHECK.same("costOf of a circle", post.costOf(6), 4);
        CHECK.same("solve a circle", post.solve(6), TOO_LONG);
        CHECK.same("questions of a circle", post.questions(), 4);
        CHECK.same("hits of a circle", post.hits(), 5);
        CHECK.same("remembered of a circle", post.remembered(), 4);
        CHECK.same("costOf of a known circle", post.costOf(12), 0);
    }

    // Promise 8
    private static void forget() {
        RiddlePost post = new RiddlePost();
        CHECK.raises("forget(7) of nothing", STATE, () -> post.forget(7));
        post.setAnswer(7, 1, 9);
        post.setReference(8, 7, 9);
        post.solve(8);
        post.solve(9);
        CHECK.same("forget an answer", post.forget(7), ANSWER);
        CHECK.same("forget a reference", post.forget(8), REFERENCE);
        CHECK.same("forget a refusal", post.forget(9), REFUSAL);
        CHECK.same("rememberedOf(7)", post.rememberedOf(7), NOTHING);
        CHECK.same("ticksLeftOf(7)", post.ticksLeftOf(7), NONE);
        CHECK.same("the riddle keeps what it has", post.kindOf(7), ANSWER);
        CHECK.same("the referral stays", post.remembered(), 1);
        CHECK.same("told by account, too", post.rememberedByAccount(), 1);
        CHECK.raises("forget(7) again", STATE, () -> post.forget(7));
        CHECK.same("it is asked again", post.costOf(7), 1);
    }

    // Promise 9
    private static void pass() {
        RiddlePost post = new RiddlePost();
        post.setAges(0, 3, 2);
        post.setAnswer(6, 5, 3);
        post.solve(0);
        post.solve(6);
        CHECK.same("nothing ends in 1", post.pass(1), 0);
        CHECK.same("ticksLeftOf(0)", post.ticksLeftOf(0), 1);
        CHECK.same("the refusal ends", post.pass(1), 1);
        CHECK.same("rememberedOf(0)", post.rememberedOf(0), NOTHING);
        CHECK.same("rememberedOf(6)", post.rememberedOf(6), ANSWER);
        CHECK.same("the answer and the referral end", post.pass(1), 2);
        CHECK.same("time", post.time(), 3);
        CHECK.same("remembered", post.remembered(), 0);
        CHECK.same("pass(99)", post.pass(99), 0);
        CHECK.same("time then", post.time(), 102);
        for (int ticks : new int[] {0, -1, 100, Integer.MAX_VALUE, Integer.MIN_VALUE}) {
            CHECK.raises("pass(" + ticks + ")", ARGUMENT, () -> post.pass(ticks));
        }
        CHECK.same("time stays", post.time(), 102);
    }

    /** A post at the time 9998. */
    private static RiddlePost latePost() {
        RiddlePost post = new RiddlePost();
        for (int times = 0; times < 100; times++) {
            post.pass(99);
        }
        post.pass(98);
        return post;
    }

    private static void passBound() {
        RiddlePost post = latePost();
        CHECK.same("late time", post.time(), 9998);
        CHECK.raises("pass(2) at 9998", STATE, () -> post.pass(2));
        CHECK.raises("pass(99) at 9998", STATE, () -> post.pass(99));
        CHECK.raises("pass(100) at 9998", ARGUMENT, () -> post.pass(100));
        CHECK.raises("pass(MAX) at 9998", ARGUMENT, () -> post.pass(Integer.MAX_VALUE));
        CHECK.same("pass(1) at 9998", post.pass(1), 0);
        CHECK.same("latest time", post.time(), 9999);
        CHECK.raises("pass(1) at 9999", STATE, () -> post.pass(1));
        post.setAnswer(6, 1, 99);
        post.solve(6);
        CHECK.same("an end above the bound", post.ticksLeftOf(6), 99);
        CHECK.same("a referral above the bound", post.referralLeft(1), 20);
        CHECK.same("next end above the bound", post.ticksUntilForgetting(), 20);
    }

    // Promises 10, 11, 12
    private static void zonesAsTheyAre() {
        RiddlePost post = new RiddlePost();
        post.pass(7);
        CHECK.same("time", post.time(), 7);
        for (int zone = 1; zone < 6; zone++) {
            post.setParent(zone, zone - 1);
        }
        for (int zone = 0; zone < 6; zone++) {
            CHECK.same("line parentOf " + zone, post.parentOf(zone), zone - 1);
            CHECK.same("line depthOf " + zone, post.depthOf(zone), zone);
        }
        post.setParent(3, 0);
        CHECK.same("depthOf(5) shorter", post.depthOf(5), 3);
    }

    // Promises 13, 14
    private static void riddlesAsTheyAre() {
        RiddlePost post = new RiddlePost();
        post.setAnswer(0, 0, 4);
        post.setReference(35, 0, 4);
        CHECK.same("kindOf answer", post.kindOf(0), ANSWER);
        CHECK.same("valueOf answer 0", post.valueOf(0), 0);
        CHECK.same("kindOf reference", post.kindOf(35), REFERENCE);
        CHECK.same("valueOf reference to 0", post.valueOf(35), 0);
        CHECK.same("kindOf nothing", post.kindOf(1), NOTHING);
        CHECK.same("valueOf nothing", post.valueOf(1), NONE);
        post.solve(35);
        post.solve(1);
        post.setAnswer(1, 9, 9);
        CHECK.same("kindOf is not what is remembered", post.kindOf(1), ANSWER);
        post.takeAway(0);
        CHECK.same("kindOf taken away", post.kindOf(0), NOTHING);
        CHECK.same("valueOf taken away", post.valueOf(0), NONE);
    }

    // Promise 15
    private static void truthOf() {
        RiddlePost post = new RiddlePost();
        post.setReference(0, 7, 5);
        post.setAnswer(7, 11, 99);
        CHECK.same("truthOf through a reference", post.truthOf(0), 11);
        post.solve(0);
        post.setAnswer(7, 12, 99);
        CHECK.same("truthOf does not look at the memory", post.truthOf(0), 12);
        CHECK.same("wouldSolve does", post.wouldSolve(0), 11);
        post.takeAway(7);
        CHECK.same("truthOf to nothing", post.truthOf(0), NONE);
        CHECK.same("truthOf changes nothing", post.hits(), 0);
    }

    // Promises 16 to 19 and 21
    private static void memory() {
        RiddlePost post = new RiddlePost();
        post.setAges(0, 8, 6);
        post.setAnswer(12, 3, 7);
        post.setReference(13, 12, 9);
        post.solve(13);
        post.solve(0);
        CHECK.same("rememberedOf reference", post.rememberedOf(13), REFERENCE);
        CHECK.same("rememberedOf answer", post.rememberedOf(12), ANSWER);
        CHECK.same("rememberedOf refusal", post.rememberedOf(0), REFUSAL);
        CHECK.same("rememberedOf nothing", post.rememberedOf(1), NOTHING);
        CHECK.same("ticksLeftOf(13)", post.ticksLeftOf(13), 9);
        CHECK.same("ticksLeftOf(12)", post.ticksLeftOf(12), 7);
        CHECK.same("ticksLeftOf(0)", post.ticksLeftOf(0), 6);
        CHECK.same("referralLeft(2)", post.referralLeft(2), 8);
        CHECK.same("referralLeft(0)", post.referralLeft(0), NONE);
        CHECK.same("remembered", post.remembered(), 4);
        int[] nexts = {6, 1, 1, 1};
        for (int step = 0; step < nexts.length; step++) {
            CHECK.same("ticksUntilForgetting " + step, post.ticksUntilForgetting(), nexts[step]);
            CHECK.same("one is forgotten " + step, post.pass(nexts[step]), 1);
            CHECK.same("remembered " + step, post.remembered(), 3 - step);
        }
        CHECK.same("nothing to forget", post.ticksUntilForgetting(), NONE);
        post.solve(6);
        post.setAges(1, 99, 99);
        post.forget(6);
        CHECK.same("only a referral is left", post.ticksUntilForgetting(), 8);
    }

    // Promise 20
    private static void memoryByAccount() {
        RiddlePost post = new RiddlePost();
        post.solve(30);
        CHECK.same("two referrals and a refusal", post.rememberedByAccount(), 3);
        post.solve(30);
        CHECK.same("a hit is not remembered anew", post.rememberedByAccount(), 3);
        post.forget(30);
        CHECK.same("one forgotten", post.rememberedByAccount(), 2);
        post.undo();
        CHECK.same("forget undone", post.rememberedByAccount(), 3);
        post.pass(5);
        CHECK.same("refusal ended", post.rememberedByAccount(), 2);
        post.pass(15);
        CHECK.same("all ended", post.rememberedByAccount(), 0);
        post.undo();
        CHECK.same("pass undone", post.rememberedByAccount(), 2);
    }

    // Promise 22
    private static void isOutOfDate() {
        RiddlePost post = new RiddlePost();
        post.setAnswer(0, 1, 50);
        CHECK.same("nothing remembered", post.isOutOfDate(0), false);
        post.solve(0);
        CHECK.same("as it is", post.isOutOfDate(0), false);
        post.setAnswer(0, 1, 3);
        CHECK.same("ages do not matter", post.isOutOfDate(0), false);
        post.setAnswer(0, 2, 50);
        CHECK.same("another answer", post.isOutOfDate(0), true);
        post.setReference(0, 1, 50);
        CHECK.same("a reference of the same number", post.isOutOfDate(0), true);
        post.takeAway(0);
        CHECK.same("nothing any more", post.isOutOfDate(0), true);
        post.setAnswer(0, 1, 50);
        CHECK.same("the same again", post.isOutOfDate(0), false);
        post.solve(5);
        CHECK.same("a refusal as it is", post.isOutOfDate(5), false);
        post.setAges(0, 1, 99);
        CHECK.same("age for refusals does not matter", post.isOutOfDate(5), false);
        post.setAnswer(5, 0, 1);
        CHECK.same("a refusal out of date", post.isOutOfDate(5), true);
        post.setReference(6, 0, 50);
        post.solve(6);
        CHECK.same("a reference as it is", post.isOutOfDate(6), false);
        post.setReference(6, 1, 50);
        CHECK.same("another reference", post.isOutOfDate(6), true);
        post.setAnswer(6, 0, 50);
        CHECK.same("an answer of the same number", post.isOutOfDate(6), true);
        post.forget(6);
        CHECK.same("forgotten", post.isOutOfDate(6), false);
    }

    // Promises 23 to 27
    private static void accounts() {
        RiddlePost post = new RiddlePost();
        post.setReference(0, 18, 50);
        post.setAnswer(18, 4, 50);
        post.solve(0);
        CHECK.same("solved counts no references", post.solved(), 1);
        CHECK.same("questions", post.questions(), 4);
        CHECK.same("hits", post.hits(), 0);
        CHECK.same("questionsTo(0)", post.questionsTo(0), 2);
        CHECK.same("questionsTo(1)", post.questionsTo(1), 1);
        CHECK.same("questionsTo(3)", post.questionsTo(3), 1);
        CHECK.sameDouble("meanQuestions", post.meanQuestions(), 4.0);
        post.solve(0);
        CHECK.same("hits of a chain", post.hits(), 2);
        CHECK.sameDouble("meanQuestions of two", post.meanQuestions(), 2.0);
        post.solve(18);
        CHECK.same("solved", post.solved(), 3);
        CHECK.same("hits then", post.hits(), 3);
        CHECK.sameDouble("meanQuestions of three", post.meanQuestions(), 4.0 / 3);
        CHECK.same("a refusal counts, too", post.solve(1) + 10 * post.solved(), 39);
        CHECK.same("and a chain that is too long", chainCounts(), 1);
    }

    private static int chainCounts() {
        RiddlePost post = chain(7);
        post.solve(0);
        return post.solved();
    }

    // Promises 28, 29
    private static void forecasts() {
        RiddlePost post = new RiddlePost();
        post.setAnswer(30, 5, 9);
        long before = post.digest();
        CHECK.same("wouldSolve", post.wouldSolve(30), 5);
        CHECK.same("costOf", post.costOf(30), 3);
        CHECK.same("wouldSolve nothing", post.wouldSolve(31), NONE);
        CHECK.same("ticksUntilTruth", post.ticksUntilTruth(30), 0);
        CHECK.same("forecasts change nothing", post.digest(), before);
        CHECK.same("nor by account", post.rememberedByAccount(), 0);
        post.solve(30);
        CHECK.same("costOf what is remembered", post.costOf(30), 0);
        CHECK.same("costOf with a referral", post.costOf(31), 1);
        CHECK.same("costOf from zone 2 on", post.costOf(12), 1);
        CHECK.same("costOf elsewhere", post.costOf(18), 3);
        post.setAnswer(30, 6, 9);
        CHECK.same("wouldSolve by the memory", post.wouldSolve(30), 5);
        post.pass(8);
        CHECK.same("wouldSolve until it ends", post.wouldSolve(30), 5);
        post.pass(1);
        CHECK.same("wouldSolve when it has ended", post.wouldSolve(30), 6);
    }

    private static void costOfKnowsItsOwnWay() {
        RiddlePost post = new RiddlePost();
        post.setReference(30, 31, 9);
        post.setReference(31, 12, 9);
        post.setReference(12, 30, 9);
        CHECK.same("costOf uses new referrals and replies", post.costOf(30), 5);
        post.solve(30);
        CHECK.same("and so it is", post.questions(), 5);
        RiddlePost other = new RiddlePost();
        other.setReference(18, 24, 9);
        other.setReference(24, 35, 9);
        CHECK.same("costOf through three zones", other.costOf(18), 8);
        other.solve(18);
        CHECK.same("and so it is there", other.questions(), 8);
    }

    // Promise 30
    private static void ticksUntilTruth() {
        RiddlePost post = new RiddlePost();
        post.setReference(0, 6, 40);
        post.setAnswer(6, 1, 30);
        post.solve(0);
        CHECK.same("it would now", post.ticksUntilTruth(0), 0);
        post.setAnswer(6, 2, 30);
        CHECK.same("when the answer ends", post.ticksUntilTruth(0), 30);
        post.setAnswer(0, 1, 9);
        CHECK.same("true by chance, though out of date", post.ticksUntilTruth(0), 0);
        post.pass(30);
        CHECK.same("when the reference ends", post.ticksUntilTruth(0), 10);
        post.setAnswer(0, 2, 9);
        CHECK.same("true by chance again", post.ticksUntilTruth(0), 0);
        post.pass(9);
        post.setAnswer(0, 77, 9);
        CHECK.same("in the last tick", post.ticksUntilTruth(0), 1);
        RiddlePost old = new RiddlePost();
        old.setAnswer(0, 1, 99);
        old.solve(0);
        old.takeAway(0);
        CHECK.same("the longest wait", old.ticksUntilTruth(0), 99);
    }

    private static void ticksUntilTruthBeyondTheBound() {
        RiddlePost post = latePost();
        post.setAnswer(0, 1, 99);
        post.solve(0);
        post.setAnswer(0, 2, 99);
        CHECK.same("beyond the bound of the time", post.ticksUntilTruth(0), 99);
    }

    // Promise 31
    private static void append() {
        RiddlePost post = new RiddlePost();
        CHECK.same("append(33)", post.append(33), 1);
        CHECK.same("append(126)", post.append(126), 2);
        for (int code : new int[] {32, 127, 0, -1, 128, Integer.MAX_VALUE, Integer.MIN_VALUE}) {
            CHECK.raises("append(" + code + ")", ARGUMENT, () -> post.append(code));
        }
        for (int length = 3; length <= 60; length++) {
            CHECK.same("append to " + length, post.append('?'), length);
        }
        CHECK.raises("append to a full text", STATE, () -> post.append('?'));
        CHECK.raises("a wrong code to a full text", ARGUMENT, () -> post.append(32));
        CHECK.same("the text has 60", post.clearText(), 60);
        CHECK.same("append again", post.append('?'), 1);
    }

    // Promise 32
    private static void clearText() {
        RiddlePost post = new RiddlePost();
        CHECK.same("clear the empty text", post.clearText(), 0);
        write(post, "?12");
        CHECK.same("clear three", post.clearText(), 3);
        CHECK.same("cleared", post.clearText(), 0);
        CHECK.same("firstError of the cleared text", post.firstError(), 0);
        CHECK.raises("clearText is not undoable", STATE, post::undo);
    }

    private static void write(RiddlePost post, String text) {
        for (int place = 0; place < text.length(); place++) {
            post.append(text.charAt(place));
        }
    }

    private static void error(String text, int due) {
        RiddlePost post = new RiddlePost();
        write(post, text);
        CHECK.same("firstError of " + text, post.firstError(), due);
        CHECK.same("the text stays: " + text, post.clearText(), text.length());
    }

    // Promise 33
    private static void firstError() {
        error("", 0);
        for (String acts : new String[] {"?0", "?9", "?10", "?35", "+1", "+9", "+10", "+99", "?0,+1,?35,+99"}) {
            error(acts, NONE);
        }
        for (String start : new String[] {"?", "+", "?0,", "+5,?", "?35,+", "+99,"}) {
            error(start, start.length());
        }
        for (String wrong : new String[] {"x", "0", ",", "-", "?x", "?,", "??", "?+", "?-", "+0", "+,", "++", "+?",
            "?00", "?01", "?36", "?39", "?40", "?99", "?100", "?350", "+100", "+990", "+9x", "?3x", "?0,,", "?0,0",
            "?0,x", "?0?", "+1+", "+10?", "?/", "?:", "+/", "+:", "+1/", "+1:", "?1/", "?1:", "?5~"}) {
            error(wrong, wrong.length() - 1);
        }
        error("x?0", 0);
        error("?36,?0", 2);
        error("+05", 1);
        error("?0,+0,?1", 4);
        error("?007", 2);
        RiddlePost post = new RiddlePost();
        write(post, "?35,+0");
        long before = post.digest();
        CHECK.same("firstError", post.firstError(), 5);
        CHECK.same("firstError again", post.firstError(), 5);
        CHECK.same("firstError changes nothing", post.digest(), before);
    }

    private static void firstErrorOfFullTexts() {
        String twenty = "?1,".repeat(20);
        error(twenty.substring(0, 59), NONE);
        error(twenty, 60);
        error(twenty.substring(0, 59) + "2", NONE);
        error("+1" + ",?22".repeat(14) + ",?", 60);
        error("+1" + ",?22".repeat(14) + ",x", 59);
        RiddlePost post = new RiddlePost();
        write(post, twenty.substring(0, 59) + "2");
        CHECK.same("twenty acts", post.runActs(), 20);
        CHECK.same("twenty solved", post.solved(), 20);
        CHECK.same("nineteen the same", post.hits(), 18);
    }

    // Promise 34
    private static void runActs() {
        RiddlePost post = new RiddlePost();
        post.setAnswer(12, 3, 4);
        write(post, "?12,+3,?12,+10,?35");
        CHECK.same("five acts", post.runActs(), 5);
        CHECK.same("time", post.time(), 13);
        CHECK.same("solved", post.solved(), 3);
        CHECK.same("questions", post.questions(), 4);
        CHECK.same("hits", post.hits(), 1);
        CHECK.same("the answer is forgotten", post.rememberedOf(12), NOTHING);
        CHECK.same("the refusal is remembered", post.ticksLeftOf(35), 5);
        CHECK.same("the text is empty", post.clearText(), 0);
        CHECK.raises("no acts in the empty text", STATE, post::runActs);
        write(post, "?1,");
        CHECK.raises("a text that ends too early", STATE, post::runActs);
        CHECK.same("it stays", post.append('+'), 4);
        CHECK.raises("a text that ends too early again", STATE, post::runActs);
        CHECK.same("nothing was solved", post.solved(), 3);
        CHECK.same("undo all five acts", post.undo(), 1);
        CHECK.same("time before", post.time(), 0);
        CHECK.same("solved before", post.solved(), 0);
        CHECK.same("the text stays at undo", post.clearText(), 4);
    }

    private static void runActsStops() {
        RiddlePost post = latePost();
        write(post, "?0,+1,+1,?1");
        CHECK.same("up to the first that can't be", post.runActs(), 2);
        CHECK.same("time", post.time(), 9999);
        CHECK.same("the acts behind it do not happen", post.solved(), 1);
        CHECK.same("the text is empty", post.clearText(), 0);
        long before = post.digest();
        write(post, "+1,?2");
        CHECK.same("no act happens", post.runActs(), 0);
        CHECK.same("nothing changed", post.digest(), before);
        CHECK.same("the text is empty again", post.clearText(), 0);
        CHECK.same("undo of no act", post.undo(), 5);
        CHECK.same("nothing changed by undo", post.digest(), before);
        CHECK.same("undo of the acts", post.undo(), 4);
        CHECK.same("time before", post.time(), 9998);
        write(post, "+2");
        CHECK.same("one tick too many", post.runActs(), 0);
        write(post, "+1");
        CHECK.same("just in time", post.runActs(), 1);
    }

    // Promise 35
    private static void undoSix() {
        RiddlePost post = new RiddlePost();
        long[] digests = new long[9];
        for (int step = 0; step < 9; step++) {
            digests[step] = post.digest();
            post.pass(step + 1);
        }
        for (int left = 5; left >= 0; left--) {
            CHECK.same("undo to " + left, post.undo(), left);
            CHECK.same("state " + left, post.digest(), digests[3 + left]);
        }
        CHECK.raises("the oldest are dropped", STATE, post::undo);
        CHECK.same("time after six", post.time(), 6);
        post.pass(1);
        post.pass(1);
        CHECK.same("undo one of two", post.undo(), 1);
        post.solve(0);
        CHECK.same("undo the newer one", post.undo(), 1);
        CHECK.same("undo the older one", post.undo(), 0);
        CHECK.same("time after all", post.time(), 6);
    }

    private static void undone(String name, RiddlePost post, Runnable call) {
        long digest = post.digest();
        int account = post.rememberedByAccount();
        double mean = post.meanQuestions();
        call.run();
        CHECK.same(name + " saves one state", post.undo(), 0);
        CHECK.same(name + " is undone", post.digest(), digest);
        CHECK.same(name + " is undone by account", post.rememberedByAccount(), account);
        CHECK.sameDouble(name + " is undone in the mean", post.meanQuestions(), mean);
        CHECK.raises(name + " saves no more", STATE, post::undo);
    }

    private static void undoEachMethod() {
        RiddlePost post = new RiddlePost();
        post.setAnswer(6, 7, 30);
        post.setReference(7, 6, 30);
        post.solve(7);
        post.solve(35);
        for (int left = 4; left > 0; left--) {
            CHECK.same("make room", post.undo(), left - 1);
        }
        undone("setParent", post, () -> post.setParent(5, 4));
        undone("setAges", post, () -> post.setAges(5, 4, 4));
        CHECK.same("ages are restored", post.setAges(5, 20, 5), 20);
        post.undo();
        undone("setAnswer", post, () -> post.setAnswer(5, 4, 4));
        undone("setReference", post, () -> post.setReference(5, 4, 4));
        undone("solve", post, () -> post.solve(20));
        undone("a hit", post, () -> {
            post.solve(20);
            post.solve(20);
            CHECK.same("undo the hit", post.undo(), 1);
            CHECK.same("no hit any more", post.hits(), 0);
        });
        undone("pass", post, () -> post.pass(20));
        undone("pass with a memory", post, () -> {
            post.solve(20);
            post.pass(5);
            CHECK.same("undo the pass", post.undo(), 1);
            CHECK.same("it is remembered again", post.ticksLeftOf(20), 5);
        });
        undone("takeAway", post, () -> {
            post.setAnswer(3, 4, 5);
            post.takeAway(3);
            CHECK.same("undo the takeAway", post.undo(), 1);
            CHECK.same("it has it again", post.solve(3), 4);
            CHECK.same("with its age", post.ticksLeftOf(3), 5);
            post.undo();
        });
        undone("forget", post, () -> {
            post.solve(3);
            post.forget(3);
            CHECK.same("undo the forget", post.undo(), 1);
            CHECK.same("it is remembered again", post.rememberedOf(3), REFUSAL);
        });
        undone("runActs", post, () -> {
            write(post, "?4,+5,?22");
            post.runActs();
        });
    }

    private static void undoKeepsText() {
        RiddlePost post = new RiddlePost();
        write(post, "?1");
        post.pass(1);
        write(post, "2");
        post.undo();
        CHECK.same("the text is not undone", post.append(','), 4);
        post.clearText();
        write(post, "+1");
        post.runActs();
        write(post, "?");
        post.undo();
        CHECK.same("nor is the text of runActs", post.clearText(), 1);
    }

    // Promise 36
    private static void digest() {
        CHECK.same("digest of a new object", new RiddlePost().digest(), 8285901248119760189L);
        RiddlePost post = new RiddlePost();
        post.setReference(0, 18, 9);
        post.setAnswer(18, 4, 9);
        post.solve(0);
        post.setAnswer(18, 5, 9);
        post.pass(2);
        CHECK.same("digest", post.digest(), digestByHand(post));
        RiddlePost circle = new RiddlePost();
        circle.setReference(3, 4, 9);
        circle.setReference(4, 3, 9);
        circle.solve(3);
        long digest = circle.digest();
        CHECK.same("digest is the same again", circle.digest(), digest);
        CHECK.same("digest with TOO_LONG", digest, digestByHand(circle));
    }

    private static long digestByHand(RiddlePost post) {
        java.util.List<Integer> values = new java.util.ArrayList<>(java.util.List.of(post.time(), post.remembered(),
                post.ticksUntilForgetting(), post.solved(), post.questions(), post.hits()));
        for (int zone = 0; zone < 6; zone++) {
            values.addAll(java.util.List.of(post.parentOf(zone), post.depthOf(zone), post.referralLeft(zone),
                    post.questionsTo(zone)));
        }
        for (int riddle = 0; riddle < 36; riddle++) {
            values.addAll(java.util.List.of(post.kindOf(riddle), post.valueOf(riddle), post.truthOf(riddle),
                    post.rememberedOf(riddle), post.ticksLeftOf(riddle), post.isOutOfDate(riddle) ? 1 : 0,
                    post.wouldSolve(riddle), post.costOf(riddle)));
        }
        long hash = 725;
        for (int value : values) {
            hash = 31 * hash + value;
        }
        return hash;
    }

    private static void wrongZonesAndRiddles() {
        RiddlePost post = new RiddlePost();
        for (int zone : new int[] {-1, 6, 7, 36, Integer.MAX_VALUE, Integer.MIN_VALUE}) {
            CHECK.raises("parentOf(" + zone + ")", INDEX, () -> post.parentOf(zone));
            CHECK.raises("depthOf(" + zone + ")", INDEX, () -> post.depthOf(zone));
            CHECK.raises("referralLeft(" + zone + ")", INDEX, () -> post.referralLeft(zone));
            CHECK.raises("questionsTo(" + zone + ")", INDEX, () -> post.questionsTo(zone));
        }
        for (int none : NO_NUMBERS) {
            CHECK.raises("setAnswer(" + none + ")", INDEX, () -> post.setAnswer(none, 1, 1));
            CHECK.raises("takeAway(" + none + ")", INDEX, () -> post.takeAway(none));
            CHECK.raises("forget(" + none + ")", INDEX, () -> post.forget(none));
            CHECK.raises("kindOf(" + none + ")", INDEX, () -> post.kindOf(none));
            CHECK.raises("valueOf(" + none + ")", INDEX, () -> post.valueOf(none));
            CHECK.raises("truthOf(" + none + ")", INDEX, () -> post.truthOf(none));
            CHECK.raises("rememberedOf(" + none + ")", INDEX, () -> post.rememberedOf(none));
            CHECK.raises("ticksLeftOf(" + none + ")", INDEX, () -> post.ticksLeftOf(none));
            CHECK.raises("isOutOfDate(" + none + ")", INDEX, () -> post.isOutOfDate(none));
            CHECK.raises("wouldSolve(" + none + ")", INDEX, () -> post.wouldSolve(none));
            CHECK.raises("costOf(" + none + ")", INDEX, () -> post.costOf(none));
            CHECK.raises("ticksUntilTruth(" + none + ")", INDEX, () -> post.ticksUntilTruth(none));
        }
    }

    private static Runnable[] callsThatThrow(RiddlePost post) {
        return new Runnable[] {
            () -> post.setParent(0, 0), () -> post.setParent(6, 0), () -> post.setParent(5, 5),
            () -> post.setAges(6, 9, 9), () -> post.setAges(5, 0, 9), () -> post.setAges(5, 9, 100),
            () -> post.setAnswer(36, 1, 1), () -> post.setAnswer(20, 100, 1), () -> post.setAnswer(20, 1, 100),
            () -> post.setReference(36, 1, 1), () -> post.setReference(20, 36, 1),
            () -> post.setReference(20, 20, 1), () -> post.setReference(20, 21, 0),
            () -> post.takeAway(36), () -> post.takeAway(20), () -> post.solve(36), () -> post.solve(-1),
            () -> post.forget(36), () -> post.forget(20), () -> post.pass(0), () -> post.pass(100),
            () -> post.append(32), () -> post.append(127), post::runActs};
    }

    private static void throwingChangesNothing() {
        RiddlePost post = new RiddlePost();
        post.setAges(5, 33, 44);
        post.setAnswer(30, 1, 9);
        post.solve(30);
        write(post, "?36");
        long digest = post.digest();
        Runnable[] calls = callsThatThrow(post);
        for (int call = 0; call < calls.length; call++) {
            boolean thrown = false;
            try {
                calls[call].run();
            } catch (IndexOutOfBoundsException | IllegalArgumentException | IllegalStateException e) {
                thrown = true;
            }
            CHECK.same("call " + call + " throws", thrown, true);
            CHECK.same("call " + call + " changes nothing", post.digest(), digest);
            CHECK.same("call " + call + " changes no account", post.rememberedByAccount(), 3);
            CHECK.same("call " + call + " leaves the text", post.firstError(), 2);
        }
        CHECK.same("the text stays", post.clearText(), 3);
        CHECK.same("the ages stay", post.setAges(5, 1, 1), 33);
        CHECK.same("no state was saved: 3 left", post.undo(), 3);
        post.solve(31);
        CHECK.same("the age for refusals stays", post.ticksLeftOf(31), 44);
    }

    private static void throwingSavesNothing() {
        RiddlePost post = new RiddlePost();
        for (Runnable call : callsThatThrow(post)) {
            boolean thrown = false;
            try {
                call.run();
            } catch (IndexOutOfBoundsException | IllegalArgumentException | IllegalStateException e) {
                thrown = true;
            }
            CHECK.same("it throws", thrown, true);
            CHECK.raises("nothing is saved", STATE, post::undo);
        }
        RiddlePost late = latePost();
        CHECK.raises("pass at the end", STATE, () -> late.pass(2));
        CHECK.same("still six states", late.undo(), 5);
        CHECK.same("the time before", late.time(), 9900);
        for (int times = 0; times < 60; times++) {
            late.append('?');
        }
        CHECK.raises("append to the full text", STATE, () -> late.append('?'));
        CHECK.same("append saves nothing", late.undo(), 4);
        CHECK.same("the text has 60", late.clearText(), 60);
    }

    private static void firstInTheThrowsClause() {
        RiddlePost post = new RiddlePost();
        CHECK.raises("setParent(0, -1)", INDEX, () -> post.setParent(0, -1));
        CHECK.raises("setParent(6, 9)", INDEX, () -> post.setParent(6, 9));
        CHECK.raises("setAges(-1, 0, 0)", INDEX, () -> post.setAges(-1, 0, 0));
        CHECK.raises("setAnswer(-1, -1, 0)", INDEX, () -> post.setAnswer(-1, -1, 0));
        CHECK.raises("setReference(5, 36, 0)", INDEX, () -> post.setReference(5, 36, 0));
        CHECK.raises("setReference(-1, -1, 0)", INDEX, () -> post.setReference(-1, -1, 0));
        CHECK.raises("takeAway(36)", INDEX, () -> post.takeAway(36));
        CHECK.raises("forget(-1)", INDEX, () -> post.forget(-1));
    }
}
