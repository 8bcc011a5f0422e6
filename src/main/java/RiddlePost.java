/** A riddle post that asks zones and remembers answers, as DOC.md promises it. */
public final class RiddlePost {
    public static final int NONE = -1;
    public static final int TOO_LONG = -2;
    public static final int NOTHING = 0, ANSWER = 1, REFERENCE = 2, REFUSAL = 3;

    private static final int ZONES = 6;
    private static final int ROOT = 0;
    private static final int RIDDLES = 36;
    private static final int RIDDLES_OF_A_ZONE = 6;
    private static final int HIGHEST_ANSWER = 99;
    private static final int LONGEST_AGE = 99;
    private static final int FIRST_REFERRAL_AGE = 20;
    private static final int FIRST_REFUSAL_AGE = 5;
    private static final int NO_TICKS = 0;
    private static final int MOST_TICKS = 99;
    private static final int LAST_TIME = 9999;
    private static final int MOST_FOLLOWED = 6;
    private static final int MOST_SAVED = 6;
    private static final int LONGEST_TEXT = 60;
    // A text of n acts has at least 3 * n - 1 characters.
    private static final int MOST_ACTS = 20;
    private static final int LOWEST_CODE = 33;
    private static final int HIGHEST_CODE = 126;
    private static final int SOLVING = '?';
    private static final int PASSING = '+';
    private static final int SEPARATOR = ',';
    private static final long FIRST_HASH = 725L;

    private final State now;
    private final State[] saved;
    private int savedCount;
    private final ActText text;

    public RiddlePost() {
        now = new State();
        saved = new State[MOST_SAVED];
        for (int place = 0; place < MOST_SAVED; place++) {
            saved[place] = new State();
        }
        savedCount = 0;
        text = new ActText();
    }

    // ---- zones and riddles

    public int setParent(int zone, int parent) throws IndexOutOfBoundsException, IllegalArgumentException {
        requireZone(zone);
        if (zone == ROOT) {
            throw new IndexOutOfBoundsException("the root has no parent");
        }
        requireRange(parent, ROOT, zone - 1);
        save();
        int before = read(now.zones.parents, zone);
        write(now.zones.parents, zone, parent);
        return before;
    }

    public int setAges(int zone, int referrals, int refusals)
            throws IndexOutOfBoundsException, IllegalArgumentException {
        requireZone(zone);
        requireRange(referrals, 1, LONGEST_AGE);
        requireRange(refusals, 1, LONGEST_AGE);
        save();
        int before = read(now.zones.referralAges, zone);
        write(now.zones.referralAges, zone, referrals);
        write(now.zones.refusalAges, zone, refusals);
        return before;
    }

    public int setAnswer(int riddle, int answer, int age)
            throws IndexOutOfBoundsException, IllegalArgumentException {
        requireRiddle(riddle);
        requireRange(answer, 0, HIGHEST_ANSWER);
        requireRange(age, 1, LONGEST_AGE);
        return replaceTruth(riddle, ANSWER, answer, age);
    }

    public int setReference(int riddle, int other, int age)
            throws IndexOutOfBoundsException, IllegalArgumentException {
        requireRiddle(riddle);
        requireRiddle(other);
        if (other == riddle) {
            throw new IllegalArgumentException("a riddle does not refer to itself");
        }
        requireRange(age, 1, LONGEST_AGE);
        return replaceTruth(riddle, REFERENCE, other, age);
    }

    public int takeAway(int riddle) throws IndexOutOfBoundsException, IllegalStateException {
        requireRiddle(riddle);
        if (now.truths.kind(riddle) == NOTHING) {
            throw new IllegalStateException("the riddle has nothing");
        }
        return replaceTruth(riddle, NOTHING, NONE, NO_TICKS);
    }

    // ---- the post

    public int solve(int riddle) throws IndexOutOfBoundsException {
        requireRiddle(riddle);
        save();
        return now.findResult(riddle);
    }

    public int forget(int riddle) throws IndexOutOfBoundsException, IllegalStateException {
        requireRiddle(riddle);
        int kind = now.memory.kind(riddle);
        if (kind == NOTHING) {
            throw new IllegalStateException("nothing is remembered of the riddle");
        }
        save();
        now.dropReply(riddle);
        return kind;
    }

    public int pass(int ticks) throws IllegalArgumentException, IllegalStateException {
        requireRange(ticks, 1, MOST_TICKS);
        if (!now.hasRoomFor(ticks)) {
            throw new IllegalStateException("the time would be too high");
        }
        save();
        return now.letPass(ticks);
    }

    // ---- zones and riddles as they are

    public int time() {
        return now.time;
    }

    public int parentOf(int zone) throws IndexOutOfBoundsException {
        requireZone(zone);
        return read(now.zones.parents, zone);
    }

    public int depthOf(int zone) throws IndexOutOfBoundsException {
        requireZone(zone);
        return now.zones.stepsToRoot(zone);
    }

    public int kindOf(int riddle) throws IndexOutOfBoundsException {
        requireRiddle(riddle);
        return now.truths.kind(riddle);
    }

    public int valueOf(int riddle) throws IndexOutOfBoundsException {
        requireRiddle(riddle);
        return now.truths.value(riddle);
    }

    public int truthOf(int riddle) throws IndexOutOfBoundsException {
        requireRiddle(riddle);
        return now.trueResult(riddle);
    }

    // ---- the memory

    public int rememberedOf(int riddle) throws IndexOutOfBoundsException {
        requireRiddle(riddle);
        return now.memory.kind(riddle);
    }

    public int ticksLeftOf(int riddle) throws IndexOutOfBoundsException {
        requireRiddle(riddle);
        return now.ticksTo(now.memory.ticks(riddle));
    }

    public int referralLeft(int zone) throws IndexOutOfBoundsException {
        requireZone(zone);
        return now.ticksTo(read(now.referralEnds, zone));
    }

    public int remembered() {
        return now.countMemory();
    }

    public int rememberedByAccount() {
        return now.accounts.timesRemembered - now.accounts.timesForgotten;
    }

    public int ticksUntilForgetting() {
        return now.ticksTo(now.nextEnd());
    }

    public boolean isOutOfDate(int riddle) throws IndexOutOfBoundsException {
        requireRiddle(riddle);
        return now.differsFromTruth(riddle);
    }

    // ---- accounts

    public int solved() {
        return now.accounts.solved;
    }

    public int questions() {
        return now.accounts.questions;
    }

    public int hits() {
        return now.accounts.hits;
    }

    public int questionsTo(int zone) throws IndexOutOfBoundsException {
        requireZone(zone);
        return read(now.accounts.asked, zone);
    }

    public double meanQuestions() {
        int riddles = now.accounts.solved;
        return riddles == 0 ? 0.0 : (double) now.accounts.questions / riddles;
    }

    // ---- forecasts; they change nothing, and the bound of the time does not matter

    public int wouldSolve(int riddle) throws IndexOutOfBoundsException {
        requireRiddle(riddle);
        return now.resultAfter(NO_TICKS, riddle);
    }

    public int costOf(int riddle) throws IndexOutOfBoundsException {
        requireRiddle(riddle);
        return now.countQuestions(riddle);
    }

    public int ticksUntilTruth(int riddle) throws IndexOutOfBoundsException {
        requireRiddle(riddle);
        return now.waitForTruth(riddle);
    }

    // ---- the text

    public int append(int code) throws IllegalArgumentException, IllegalStateException {
        requireRange(code, LOWEST_CODE, HIGHEST_CODE);
        if (text.length >= LONGEST_TEXT) {
            throw new IllegalStateException("the text is full");
        }
        text.add(code);
        return text.length;
    }

    public int clearText() {
        int before = text.length;
        text.length = 0;
        return before;
    }

    public int firstError() {
        return text.readActs();
    }

    public int runActs() throws IllegalStateException {
        if (text.readActs() != NONE) {
            throw new IllegalStateException("the text does not tell acts");
        }
        save();
        int happened = 0;
        while (happened < text.acts && letHappen(happened)) {
            happened++;
        }
        text.length = 0;
        return happened;
    }

    // ---- undo

    public int undo() throws IllegalStateException {
        State last = savedAt(savedCount - 1);
        if (last == null) {
            throw new IllegalStateException("no state is saved");
        }
        now.copyFrom(last);
        savedCount--;
        return savedCount;
    }

    public long digest() {
        long hash = FIRST_HASH;
        hash = mix(hash, time());
        hash = mix(hash, remembered());
        hash = mix(hash, ticksUntilForgetting());
        hash = mix(hash, solved());
        hash = mix(hash, questions());
        hash = mix(hash, hits());
        for (int zone = 0; zone < ZONES; zone++) {
            hash = mixZone(hash, zone);
        }
        for (int riddle = 0; riddle < RIDDLES; riddle++) {
            hash = mixRiddle(hash, riddle);
        }
        return hash;
    }

    private long mixZone(long before, int zone) {
        long hash = mix(before, parentOf(zone));
        hash = mix(hash, depthOf(zone));
        hash = mix(hash, referralLeft(zone));
        return mix(hash, questionsTo(zone));
    }

    private long mixRiddle(long before, int riddle) {
        long hash = mix(before, kindOf(riddle));
        hash = mix(hash, valueOf(riddle));
        hash = mix(hash, truthOf(riddle));
        hash = mix(hash, rememberedOf(riddle));
        hash = mix(hash, ticksLeftOf(riddle));
        hash = mix(hash, isOutOfDate(riddle) ? 1 : 0);
        hash = mix(hash, wouldSolve(riddle));
        return mix(hash, costOf(riddle));
    }

    private static long mix(long hash, int value) {
        return 31 * hash + value;
    }

    private int replaceTruth(int riddle, int kind, int value, int age) {
        save();
        int before = now.truths.kind(riddle);
        now.truths.put(riddle, kind, value, age);
        return before;
    }

    private boolean letHappen(int act) {
        int number = read(text.actNumbers, act);
        if (read(text.actSigns, act) == SOLVING) {
            now.findResult(number);
            return true;
        }
        if (!now.hasRoomFor(number)) {
            return false;
        }
        now.letPass(number);
        return true;
    }

    private void save() {
        if (savedCount == MOST_SAVED) {
            moveOldestToEnd();
            savedCount--;
        }
        State free = savedAt(savedCount);
        if (free != null) {
            free.copyFrom(now);
            savedCount++;
        }
    }

    private State savedAt(int place) {
        return place >= 0 && place < saved.length ? saved[place] : null;
    }

    private void moveOldestToEnd() {
        for (int place = 0; place + 1 < saved.length; place++) {
            State oldest = saved[place];
            saved[place] = saved[place + 1];
            saved[place + 1] = oldest;
        }
    }

    private static void requireZone(int zone) {
        if (zone < 0 || zone >= ZONES) {
            throw new IndexOutOfBoundsException("there is no such zone");
        }
    }

    private static void requireRiddle(int riddle) {
        if (riddle < 0 || riddle >= RIDDLES) {
            throw new IndexOutOfBoundsException("there is no such riddle");
        }
    }

    private static void requireRange(int value, int lowest, int highest) {
        if (value < lowest || value > highest) {
            throw new IllegalArgumentException("an argument is out of its range");
        }
    }

    // Rows are read and written by these two, so that no index goes unseen to the machine.
    private static int read(int[] row, int index) {
        return index >= 0 && index < row.length ? row[index] : NONE;
    }

    private static void write(int[] row, int index, int value) {
        if (index >= 0 && index < row.length) {
            row[index] = value;
        }
    }

    private static void copyRow(int[] from, int[] to) {
        System.arraycopy(from, 0, to, 0, Math.min(from.length, to.length));
    }

    private static final class Zones {
        final int[] parents = new int[ZONES];
        final int[] referralAges = new int[ZONES];
        final int[] refusalAges = new int[ZONES];

        Zones() {
            for (int zone = 0; zone < ZONES; zone++) {
                parents[zone] = zone == ROOT ? NONE : (zone - 1) / 2;
                referralAges[zone] = FIRST_REFERRAL_AGE;
                refusalAges[zone] = FIRST_REFUSAL_AGE;
            }
        }

        void copyFrom(Zones other) {
            copyRow(other.parents, parents);
            copyRow(other.referralAges, referralAges);
            copyRow(other.refusalAges, refusalAges);
        }

        int stepsToRoot(int zone) {
            int steps = 0;
            int above = zone;
            while (above != ROOT && steps < ZONES) {
                above = read(parents, above);
                steps++;
            }
            return steps;
        }
    }

    /**
     * A reply for each riddle. A value is NONE where there is neither an answer nor a reference,
     * so that it is the result wherever the kind is not REFERENCE. The ticks are the age of what
     * a riddle has, and the time of the end of what is remembered.
     */
    private static final class Replies {
        private final int[] kinds = new int[RIDDLES];
        private final int[] values = new int[RIDDLES];
        private final int[] ticks = new int[RIDDLES];

        Replies() {
            for (int riddle = 0; riddle < RIDDLES; riddle++) {
                kinds[riddle] = NOTHING;
                values[riddle] = NONE;
                ticks[riddle] = NO_TICKS;
            }
        }

        void copyFrom(Replies other) {
            copyRow(other.kinds, kinds);
            copyRow(other.values, values);
            copyRow(other.ticks, ticks);
        }

        void put(int riddle, int kind, int value, int newTicks) {
            write(kinds, riddle, kind);
            write(values, riddle, value);
            write(ticks, riddle, newTicks);
        }

        int kind(int riddle) {
            return read(kinds, riddle);
        }

        int value(int riddle) {
            return read(values, riddle);
        }

        int ticks(int riddle) {
            return read(ticks, riddle);
        }
    }

    private static final class Accounts {
        int solved;
        int questions;
        int hits;
        int timesRemembered;
        int timesForgotten;
        final int[] asked = new int[ZONES];

        void copyFrom(Accounts other) {
            solved = other.solved;
            questions = other.questions;
            hits = other.hits;
            timesRemembered = other.timesRemembered;
            timesForgotten = other.timesForgotten;
            copyRow(other.asked, asked);
        }

        void countQuestionTo(int zone) {
            questions++;
            write(asked, zone, read(asked, zone) + 1);
        }
    }

    /** All that undo brings back. An end of NO_TICKS tells that nothing is remembered. */
    private static final class State {
        int time;
        final Zones zones = new Zones();
        final Replies truths = new Replies();
        final Replies memory = new Replies();
        final int[] referralEnds = new int[ZONES];
        final Accounts accounts = new Accounts();

        void copyFrom(State other) {
            time = other.time;
            zones.copyFrom(other.zones);
            truths.copyFrom(other.truths);
            memory.copyFrom(other.memory);
            copyRow(other.referralEnds, referralEnds);
            accounts.copyFrom(other.accounts);
        }

        int findResult(int first) {
            accounts.solved++;
            int riddle = first;
            for (int followed = 0; followed <= MOST_FOLLOWED; followed++) {
                takeReply(riddle);
                if (memory.kind(riddle) != REFERENCE) {
                    return memory.value(riddle);
                }
                riddle = memory.value(riddle);
            }
            return TOO_LONG;
        }

        private void takeReply(int riddle) {
            if (memory.kind(riddle) != NOTHING) {
                accounts.hits++;
                return;
            }
            int zone = riddle / RIDDLES_OF_A_ZONE;
            askTheWay(zone);
            askRiddle(riddle, zone);
        }

        // A parent has a lower number than its child: upwards by numbers is downwards in the tree.
        private void askTheWay(int zone) {
            int lacking = lackingReferrals(zone, 0);
            for (int next = 0; next < ZONES; next++) {
                if ((lacking >> next & 1) != 0) {
                    int above = read(zones.parents, next);
                    accounts.countQuestionTo(above);
                    write(referralEnds, next, time + read(zones.referralAges, above));
                    accounts.timesRemembered++;
                }
            }
        }

        private void askRiddle(int riddle, int zone) {
            accounts.countQuestionTo(zone);
            int kind = truths.kind(riddle);
            if (kind == NOTHING) {
                memory.put(riddle, REFUSAL, NONE, time + read(zones.refusalAges, zone));
            } else {
                memory.put(riddle, kind, truths.value(riddle), time + truths.ticks(riddle));
            }
            accounts.timesRemembered++;
        }

        // Sets of zones are bits here; a forecast tells by them what it may not write down.
        private int lackingReferrals(int zone, int reached) {
            int lacking = 0;
            int at = zone;
            for (int steps = 0; steps < ZONES && lacksReferral(at, reached); steps++) {
                lacking |= 1 << at;
                at = read(zones.parents, at);
            }
            return lacking;
        }

        private boolean lacksReferral(int zone, int reached) {
            return zone > ROOT && zone < referralEnds.length && referralEnds[zone] == NO_TICKS
                    && (reached >> zone & 1) == 0;
        }

        void dropReply(int riddle) {
            memory.put(riddle, NOTHING, NONE, NO_TICKS);
            accounts.timesForgotten++;
        }

        private void dropReferral(int zone) {
            write(referralEnds, zone, NO_TICKS);
            accounts.timesForgotten++;
        }

        boolean hasRoomFor(int ticks) {
            return time + ticks <= LAST_TIME;
        }

        int letPass(int ticks) {
            time += ticks;
            int before = accounts.timesForgotten;
            for (int zone = 0; zone < ZONES; zone++) {
                if (isOver(read(referralEnds, zone))) {
                    dropReferral(zone);
                }
            }
            for (int riddle = 0; riddle < RIDDLES; riddle++) {
                if (isOver(memory.ticks(riddle))) {
                    dropReply(riddle);
                }
            }
            return accounts.timesForgotten - before;
        }

        private boolean isOver(int end) {
            return end != NO_TICKS && end <= time;
        }

        int ticksTo(int end) {
            return end == NO_TICKS ? NONE : end - time;
        }

        int countMemory() {
            int count = 0;
            for (int zone = 0; zone < ZONES; zone++) {
                count += read(referralEnds, zone) != NO_TICKS ? 1 : 0;
            }
            for (int riddle = 0; riddle < RIDDLES; riddle++) {
                count += memory.kind(riddle) != NOTHING ? 1 : 0;
            }
            return count;
        }

        int nextEnd() {
            int next = NO_TICKS;
            for (int zone = 0; zone < ZONES; zone++) {
                next = earlierEnd(next, read(referralEnds, zone));
            }
            for (int riddle = 0; riddle < RIDDLES; riddle++) {
                next = earlierEnd(next, memory.ticks(riddle));
            }
            return next;
        }

        private static int earlierEnd(int one, int other) {
            if (one == NO_TICKS) {
                return other;
            }
            return other == NO_TICKS ? one : Math.min(one, other);
        }

        boolean differsFromTruth(int riddle) {
            int kind = memory.kind(riddle);
            if (kind == NOTHING) {
                return false;
            }
            int kindNow = truths.kind(riddle) == NOTHING ? REFUSAL : truths.kind(riddle);
            return kind != kindNow || memory.value(riddle) != truths.value(riddle);
        }

        int resultAfter(int ticks, int first) {
            int riddle = first;
            for (int followed = 0; followed <= MOST_FOLLOWED; followed++) {
                Replies told = memory.ticks(riddle) > time + ticks ? memory : truths;
                if (told.kind(riddle) != REFERENCE) {
                    return told.value(riddle);
                }
                riddle = told.value(riddle);
            }
            return TOO_LONG;
        }

        // After the longest age all that is remembered now is forgotten.
        int trueResult(int riddle) {
            return resultAfter(LONGEST_AGE, riddle);
        }

        int waitForTruth(int riddle) {
            int truth = trueResult(riddle);
            int ticks = 0;
            while (ticks < LONGEST_AGE && resultAfter(ticks, riddle) != truth) {
                ticks++;
            }
            return ticks;
        }

        // What is asked on the way is known further on: sets of zones and riddles stand for the memory.
        int countQuestions(int first) {
            int count = 0;
            int reached = 0;
            long heard = 0L;
            int riddle = first;
            for (int followed = 0; followed <= MOST_FOLLOWED; followed++) {
                boolean known = memory.kind(riddle) != NOTHING;
                if (!known && (heard >> riddle & 1L) == 0L) {
                    int lacking = lackingReferrals(riddle / RIDDLES_OF_A_ZONE, reached);
                    count += Integer.bitCount(lacking) + 1;
                    reached |= lacking;
                    heard |= 1L << riddle;
                }
                Replies told = known ? memory : truths;
                if (told.kind(riddle) != REFERENCE) {
                    return count;
                }
                riddle = told.value(riddle);
            }
            return count;
        }
    }

    private static final class ActText {
        private final int[] codes = new int[LONGEST_TEXT];
        int length;
        final int[] actSigns = new int[MOST_ACTS];
        final int[] actNumbers = new int[MOST_ACTS];
        int acts;

        void add(int code) {
            write(codes, length, code);
            length++;
        }

        // The acts are kept while the first error is looked for: so one reading tells both.
        int readActs() {
            acts = 0;
            int sign = NONE;
            int number = NONE;
            for (int place = 0; place < length; place++) {
                int code = read(codes, place);
                if (sign == NONE) {
                    if (code != SOLVING && code != PASSING) {
                        return place;
                    }
                    sign = code;
                } else if (code == SEPARATOR && number != NONE) {
                    addAct(sign, number);
                    sign = NONE;
                    number = NONE;
                } else {
                    number = withDigit(sign, number, code);
                    if (number == NONE) {
                        return place;
                    }
                }
            }
            if (number == NONE) {
                return length;
            }
            addAct(sign, number);
            return NONE;
        }

        private void addAct(int sign, int number) {
            write(actSigns, acts, sign);
            write(actNumbers, acts, number);
            acts++;
        }

        private static int withDigit(int sign, int number, int code) {
            boolean afterZero = number == 0;
            if (code < '0' || code > '9' || afterZero) {
                return NONE;
            }
            int lowest = sign == SOLVING ? 0 : 1;
            int highest = sign == SOLVING ? RIDDLES - 1 : MOST_TICKS;
            int longer = (number == NONE ? 0 : 10 * number) + code - '0';
            return longer >= lowest && longer <= highest ? longer : NONE;
        }
    }
}
