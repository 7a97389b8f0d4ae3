import java.util.Arrays;

/** A court of appeals: hearings told by a text, objections, and three instances with their policies. */
public final class AppealCourt {
    public static final int NONE = -1;

    private static final int MAX_BYTES = 4000;
    private static final int BYTES_OF_A_FEED = 20;
    private static final int MAX_STEPS = 5000;

    private final byte[] fed = new byte[MAX_BYTES];
    private int fedCount;
    private Program text = new Program(0);
    private int faultKind = NONE;
    private int faultPlace = NONE;
    private final Docket docket = new Docket();
    private final Minutes minutes = new Minutes();
    private final Session session = new Session(docket, minutes);
    private final Bench bench = new Bench(docket, minutes, session);

    public AppealCourt() {
    }

    public int feed(int a, int b, int c, int d, int e) {
        if (fedCount + BYTES_OF_A_FEED > MAX_BYTES) {
            return NONE;
        }
        putBytes(a);
        putBytes(b);
        putBytes(c);
        putBytes(d);
        putBytes(e);
        return fedCount;
    }

    private void putBytes(int four) {
        for (int shift = 24; shift >= 0 && fedCount < fed.length; shift -= 8) {
            fed[fedCount] = (byte) (four >>> shift);
            fedCount++;
        }
    }

    public int read(int n) {
        if (n < 0 || n > fedCount) {
            return NONE;
        }
        Reader reader = new Reader(fed, n);
        Program found = reader.readText();
        fedCount = 0;
        faultKind = reader.faultFound();
        faultPlace = reader.placeOfFault(faultKind);
        if (faultKind == 0) {
            text = found;
        }
        return faultKind;
    }

    public int fault(int what) {
        if (what == 0) {
            return faultKind;
        }
        return what == 1 ? faultPlace : NONE;
    }

    public boolean policy(int instance, int kind, int what, int k) {
        return bench.setPolicy(instance, kind, what, k);
    }

    public int complain(int instance, int kind, int ground) {
        return bench.enterComplaint(instance, kind, ground);
    }

    public int trial(int h, int a, int b, int steps) {
        if (h < 0 || h >= text.hearings || steps < 1 || steps > MAX_STEPS) {
            return NONE;
        }
        minutes.open();
        docket.openTrial();
        session.open(text, steps);
        bench.conduct(h, a, b);
        return minutes.outcome;
    }

    public int about(int what) {
        switch (what) {
            case 7:
                return docket.made;
            case 8:
                return docket.refused;
            case 9:
                return text.hearings;
            default:
                return minutes.tell(what);
        }
    }

    public int note(int k) {
        return minutes.noteAt(k);
    }

    public int chain(int i, int what) {
        return docket.tellOfChain(minutes.objection, i, what);
    }

    public int complaint(int instance, int i, int what) {
        return docket.tellOfChain(bench.complaintOf(instance), i, what);
    }

    /** The KINDS by number, and whose heirs they are. */
    private static final class Kind {
        static final int ANY = 0;
        static final int FORM = 1;
        static final int LATE = 2;
        static final int PARTY = 3;
        static final int MERIT = 4;
        static final int BIAS = 5;
        static final int PROOF = 6;
        static final int COUNT = 7;

        private static final int[] ONE_OF = {NONE, ANY, FORM, FORM, ANY, MERIT, MERIT};

        static boolean exists(int kind) {
            return kind >= 0 && kind < COUNT;
        }

        static int oneOf(int kind) {
            return kind >= 0 && kind < ONE_OF.length ? ONE_OF[kind] : NONE;
        }

        static boolean is(int kind, int other) {
            int k = kind;
            for (int i = 0; i < COUNT && k != NONE; i++) {
                if (k == other) {
                    return true;
                }
                k = oneOf(k);
            }
            return false;
        }
    }

    /** All objections of the court's life, by their SERIALS; SERIAL 0 stands for none. */
    private static final class Docket {
        // The first of these numbers are those by which chain() and complaint() ask.
        static final int KIND = 0;
        static final int GROUND = 1;
        static final int DAYS = 2;
        static final int SERIAL = 3;
        static final int PLACE = 4;
        static final int SETTLED = 5;
        static final int WEIGHT = 6;
        static final int MANY = 7;

        private static final int CAUSE = 6;
        private static final int WIDTH = 7;
        private static final int FIRST_ROOM = 64;
        private static final int MAX_MADE = 8000;
        private static final int MAX_IN_TRIAL = 100;
        private static final int MAX_CHAIN = 50;

        private int[] rows = new int[FIRST_ROOM * WIDTH];
        private int madeBeforeTrial;
        int made;
        int refused;

        void openTrial() {
            madeBeforeTrial = made;
        }

        /** The new one's SERIAL, or 0 if the court's life has no room for it. */
        int make(int kind, int ground, int days, int place) {
            if (made >= MAX_MADE) {
                return 0;
            }
            int base = made * WIDTH;
            if (base + WIDTH > rows.length) {
                rows = Arrays.copyOf(rows, rows.length * 2);
            }
            made++;
            rows[base + KIND] = kind;
            rows[base + GROUND] = ground;
            rows[base + DAYS] = days;
            rows[base + SERIAL] = made;
            rows[base + PLACE] = place;
            return made;
        }

        /** As make, but 0 also where the trial has no room for it. */
        int makeInTrial(int kind, int ground, int days, int place) {
            return made - madeBeforeTrial >= MAX_IN_TRIAL ? 0 : make(kind, ground, days, place);
        }

        private boolean exists(int serial) {
            return serial >= 1 && serial <= made;
        }

        private int get(int serial, int field) {
            int i = (serial - 1) * WIDTH + field;
            return i >= 0 && i < made * WIDTH ? rows[i] : 0;
        }

        int kindOf(int serial) {
            return get(serial, KIND);
        }

        int groundOf(int serial) {
            return get(serial, GROUND);
        }

        int causeOf(int serial) {
            return get(serial, CAUSE);
        }

        void settle(int serial, int cause) {
            if (exists(serial)) {
                int base = (serial - 1) * WIDTH;
                rows[base + CAUSE] = cause;
                rows[base + SETTLED] = 1;
            }
        }

        /** NONE if it was joined, else the KIND of what a refusal brings; the refusal is counted. */
        int join(int serial, int cause) {
            int refusal = get(serial, SETTLED) == 1 ? Kind.LATE : serial == cause ? Kind.BIAS : NONE;
            if (refusal == NONE) {
                settle(serial, cause);
            } else {
                refused++;
            }
            return refusal;
        }

        int weightOf(int serial) {
            int ground = get(serial, GROUND);
            switch (get(serial, KIND)) {
                case Kind.FORM:
                    return ground + 10;
                case Kind.LATE:
                    return ground + 10 + get(serial, DAYS);
                case Kind.PARTY:
                    return 2 * (ground + 10);
                case Kind.MERIT:
                    return 3 * ground;
                case Kind.BIAS:
                    return 3 * ground - 5;
                case Kind.PROOF:
                    return 3 * ground + get(get(serial, CAUSE), GROUND);
                default:
                    return ground;
            }
        }

        private int inChain(int serial, int i) {
            if (i < 0 || i >= MAX_CHAIN) {
                return 0;
            }
            int s = serial;
            for (int k = 0; k < i && s != 0; k++) {
                s = get(s, CAUSE);
            }
            return s;
        }

        private int chainLength(int serial) {
            int length = 0;
            for (int s = serial; length < MAX_CHAIN && s != 0; length++) {
                s = get(s, CAUSE);
            }
            return length;
        }

        int tell(int serial, int what) {
            switch (what) {
                case WEIGHT:
                    return weightOf(serial);
                case MANY:
                    return chainLength(serial);
                default:
                    return what >= KIND && what <= SETTLED ? get(serial, what) : 0;
            }
        }

        int tellOfChain(int serial, int i, int what) {
            int found = inChain(serial, i);
            if (!exists(found)) {
                return what == KIND ? NONE : 0;
            }
            return what >= KIND && what <= WEIGHT ? tell(found, what) : 0;
        }
    }

    /** What the latest trial left behind. */
    private static final class Minutes {
        static final int RESTED = 0;
        static final int STRUCK = 1;
        static final int UPHELD = 2;
        static final int ADJOURNED = 3;

        private static final int MAX_NOTES = 200;

        private final int[] notes = new int[MAX_NOTES];
        private int noteCount;
        int outcome = NONE;
        int restedWith;
        int struckAt = NONE;
        int objection;
        int steps;
        int remands;
        int begun;

        void open() {
            noteCount = 0;
            outcome = NONE;
            restedWith = 0;
            struckAt = NONE;
            objection = 0;
            steps = 0;
            remands = 0;
            begun = 0;
        }

        void rest(int value) {
            outcome = RESTED;
            restedWith = value;
        }

        void adjourn() {
            outcome = ADJOURNED;
        }

        void strike(int instance, int serial) {
            outcome = STRUCK;
            struckAt = instance;
            objection = serial;
        }

        void uphold(int serial) {
            outcome = UPHELD;
            objection = serial;
        }

        /** False if there is no room for one more. */
        boolean putNote(int value) {
            if (noteCount >= notes.length) {
                return false;
            }
            notes[noteCount] = value;
            noteCount++;
            return true;
        }

        int noteAt(int k) {
            return k >= 0 && k < noteCount && k < notes.length ? notes[k] : 0;
        }

        int tell(int what) {
            switch (what) {
                case 0:
                    return outcome;
                case 1:
                    return restedWith;
                case 2:
                    return struckAt;
                case 3:
                    return steps;
                case 4:
                    return noteCount;
                case 5:
                    return remands;
                case 6:
                    return begun;
                default:
                    return NONE;
            }
        }
    }

    /** The three instances: their policies, their COMPLAINTS, and how a trial goes through them. */
    private static final class Bench {
        private static final int INSTANCES = 3;

        private static final int PASS = 0;
        private static final int STRIKE = 1;
        private static final int WRAP = 2;
        private static final int REMAND = 3;
        private static final int ENTER = 4;
        private static final int WEIGH = 5;

        // Eight hearings at most (each instance may double them), each seen by three instances at most.
        private static final int MAX_TURNS = 100;

        private final Docket docket;
        private final Minutes minutes;
        private final Session session;
        private final int[] policies = new int[INSTANCES * Kind.COUNT];
        private final int[] policyNumbers = new int[INSTANCES * Kind.COUNT];
        private final int[] complaints = new int[INSTANCES];

        Bench(Docket docket, Minutes minutes, Session session) {
            this.docket = docket;
            this.minutes = minutes;
            this.session = session;
            Arrays.fill(policies, NONE);
        }

        private static boolean isInstance(int instance) {
            return instance >= 0 && instance < INSTANCES;
        }

        boolean setPolicy(int instance, int kind, int what, int k) {
            if (!isInstance(instance) || !Kind.exists(kind) || what < NONE || what > WEIGH) {
                return false;
            }
            if (what == WRAP && !Kind.exists(k)) {
                return false;
            }
            policies[instance * Kind.COUNT + kind] = what;
            policyNumbers[instance * Kind.COUNT + kind] = k;
            return true;
        }

        int enterComplaint(int instance, int kind, int ground) {
            if (!isInstance(instance) || !Kind.exists(kind)) {
                return NONE;
            }
            int serial = docket.make(kind, ground, 0, NONE);
            if (serial == 0) {
                return NONE;
            }
            complaints[instance] = serial;
            return serial;
        }

        int complaintOf(int instance) {
            return isInstance(instance) ? complaints[instance] : 0;
        }

        /** Where the policy for a KIND stands, be it told for what the KIND is one of; NONE without. */
        private int policyIndex(int instance, int kind) {
            int k = kind;
            for (int i = 0; i < Kind.COUNT && k != NONE; i++) {
                int index = instance * Kind.COUNT + k;
                if (index >= 0 && index < policies.length && policies[index] != NONE) {
                    return index;
                }
                k = Kind.oneOf(k);
            }
            return NONE;
        }

        void conduct(int h, int a, int b) {
            int remanded = 0;
            int at = 0;
            int serial = session.hold(h, a, b);
            for (int i = 0; i < MAX_TURNS && serial != 0 && at < INSTANCES; i++) {
                boolean again = (remanded >> at & 1) == 1;
                int index = again ? NONE : policyIndex(at, docket.kindOf(serial));
                int what = index >= 0 && index < policies.length ? policies[index] : PASS;
                if (what == REMAND) {
                    minutes.remands++;
                    // Those below forget their own remands, since they begin anew.
                    remanded = (remanded >> at | 1) << at;
                    at = 0;
                    serial = session.hold(h, a, b);
                } else {
                    int k = index >= 0 && index < policyNumbers.length ? policyNumbers[index] : 0;
                    serial = dealtWith(at, serial, what, k);
                    at++;
                }
            }
            if (serial != 0) {
                minutes.uphold(serial);
            }
        }

        /** What goes on from an instance: a SERIAL, or 0 if the trial has ended there. */
        private int dealtWith(int instance, int serial, int what, int k) {
            switch (what) {
                case STRIKE:
                    return struck(instance, serial);
                case WRAP:
                    return wrapped(serial, k);
                case ENTER:
                    return entered(instance, serial);
                case WEIGH:
                    return docket.weightOf(serial) < k ? struck(instance, serial) : serial;
                default:
                    return serial;
            }
        }

        private int struck(int instance, int serial) {
            minutes.strike(instance, serial);
            return 0;
        }

        private int wrapped(int serial, int kind) {
            int wrap = docket.makeInTrial(kind, docket.groundOf(serial), 0, NONE);
            if (wrap == 0) {
                minutes.adjourn();
                return 0;
            }
            docket.settle(wrap, serial);
            return wrap;
        }

        private int entered(int instance, int serial) {
            int own = complaintOf(instance);
            if (own == 0) {
                return serial;
            }
            return docket.join(own, serial) == NONE ? own : serial;
        }
    }

    /** What a text becomes: one row of deeds with what they need behind them, and where hearings begin in it. */
    private static final class Program {
        static final int MAX_HEARINGS = 16;

        private final int[] code;
        private final int[] starts = new int[MAX_HEARINGS];
        private final int[] parameters = new int[MAX_HEARINGS];
        int size;
        int hearings;

        Program(int room) {
            code = new int[room < 0 ? 0 : room];
        }

        /** Where it was put. */
        int put(int x) {
            if (size < code.length) {
                code[size] = x;
                size++;
            }
            return size - 1;
        }

        void change(int where, int x) {
            if (where >= 0 && where < size) {
                code[where] = x;
            }
        }

        int get(int where) {
            return where >= 0 && where < size ? code[where] : NONE;
        }

        /** One beyond the limit is only counted: its text is refused in the end. */
        void addHearing(int start, int parameterCount) {
            if (hearings < MAX_HEARINGS) {
                starts[hearings] = start;
                parameters[hearings] = parameterCount;
            }
            hearings++;
        }

        int startOf(int h) {
            return h >= 0 && h < MAX_HEARINGS ? starts[h] : NONE;
        }

        int parametersOf(int h) {
            return h >= 0 && h < MAX_HEARINGS ? parameters[h] : NONE;
        }
    }

    /** What a Program is made of. The groups follow one another, so that a number tells its group. */
    private static final class Deed {
        static final int STEP = 0;
        static final int NOTE = 1;
        static final int HEAR = 2;
        static final int REST = 3;
        static final int TRY = 4;
        static final int LEAVE = 5;
        static final int RESUME = 6;
        static final int LAST_OF_COURSE = 6;

        static final int NUMBER = 7;
        static final int LOAD = 8;
        static final int STORE = 9;
        static final int DROP = 10;
        static final int NEGATE = 11;
        static final int JUMP = 12;
        static final int JUMP_IF_ZERO = 13;
        static final int LAST_OF_NUMBERS = 13;

        static final int ADD = 14;
        static final int SUBTRACT = 15;
        static final int MULTIPLY = 16;
        static final int DIVIDE = 17;
        static final int REMAINDER = 18;
        static final int LESS = 19;
        static final int EQUAL = 20;
        static final int UNEQUAL = 21;
        static final int LAST_OF_TWO_NUMBERS = 21;

        static final int TELL = 22;
        static final int IS = 23;
        static final int SAME = 24;
        static final int HOLD_OTHER = 25;
        static final int HOLD_CAUSE = 26;
        static final int HOLD_NEW = 27;
        static final int RAISE = 28;
        static final int JOIN = 29;
        static final int NOTE_OBJECT = 30;

        /** Behind HOLD_NEW, in place of an OBJECT: no "because" was told. */
        static final int NOT_BECAUSE = -2;
    }

    /**
     * Holds hearings. It keeps its own stacks of hearings and of tries, so that hearings in one another
     * cost no calls in one another.
     */
    private static final class Session {
        static final int MAX_NAMES = 12;
        static final int MAX_OBJECTS = 8;

        private static final int MAX_DEPTH = 12;
        // A hearing has fewer than 20 blocks open, since a text with more is a FAULT.
        private static final int MAX_TRIES = 240;
        // Three numbers wait in each of 20 expressions in one another, and those of a hear ahead of them.
        private static final int MAX_STACK = 128;
        // Far above 5,000 STEPS of the longest statement that 4,000 bytes can tell.
        private static final int MAX_DEEDS = 1000000000;

        private static final int RUNNING = 0;
        private static final int RESTED = 1;
        private static final int RAISED = 2;
        private static final int ADJOURNED = 3;

        // What a try keeps. UPHOLDS and LASTLY become NONE once they are no longer to be done.
        private static final int DEPTH = 0;
        private static final int UPHOLDS = 1;
        private static final int LASTLY = 2;
        private static final int PENDING = 3;
        private static final int VALUE = 4;
        private static final int TRY_WIDTH = 5;

        // How a try's or an uphold's block was left.
        private static final int BY_END = 0;
        private static final int BY_OBJECTION = 1;
        private static final int BY_REST = 2;

        private final Docket docket;
        private final Minutes minutes;
        private final int[] numbers = new int[MAX_DEPTH * MAX_NAMES];
        private final int[] objects = new int[MAX_DEPTH * MAX_OBJECTS];
        private final int[] returns = new int[MAX_DEPTH];
        private final int[] tries = new int[MAX_TRIES * TRY_WIDTH];
        private final int[] stack = new int[MAX_STACK];
        private Program program = new Program(0);
        private int maxSteps;
        private int pc;
        private int depth;
        private int tryCount;
        private int stackSize;
        private int state;
        private int raised;
        private int restedWith;

        Session(Docket docket, Minutes minutes) {
            this.docket = docket;
            this.minutes = minutes;
        }

        void open(Program text, int steps) {
            program = text;
            maxSteps = steps;
        }

        /** The SERIAL of what comes out of the hearing; 0 if it rests or is adjourned, as the minutes tell then. */
        int hold(int h, int a, int b) {
            start(h, a, b);
            for (int i = 0; i < MAX_DEEDS && state == RUNNING; i++) {
                int deed = fetch();
                if (deed <= Deed.LAST_OF_COURSE) {
                    doCourse(deed);
                } else if (deed <= Deed.LAST_OF_NUMBERS) {
                    doNumber(deed);
                } else if (deed <= Deed.LAST_OF_TWO_NUMBERS) {
                    doTwoNumbers(deed);
                } else {
                    doObjection(deed);
                }
                if (raised != 0) {
                    goOut();
                }
            }
            if (state == RAISED) {
                return raised;
            }
            if (state == RESTED) {
                minutes.rest(restedWith);
            } else {
                minutes.adjourn();
            }
            return 0;
        }

        private void start(int h, int a, int b) {
            state = RUNNING;
            depth = 0;
            tryCount = 0;
            stackSize = 0;
            raised = 0;
            begin(h);
            if (program.parametersOf(h) > 0) {
                setNumber(0, a);
            }
            if (program.parametersOf(h) > 1) {
                setNumber(1, b);
            }
        }

        private int fetch() {
            int x = program.get(pc);
            pc++;
            return x;
        }

        private void push(int value) {
            if (stackSize < stack.length) {
                stack[stackSize] = value;
                stackSize++;
            }
        }

        private int pop() {
            if (stackSize <= 0 || stackSize > stack.length) {
                return 0;
            }
            stackSize--;
            return stack[stackSize];
        }

        private int numberAt(int slot) {
            int i = (depth - 1) * MAX_NAMES + slot;
            return i >= 0 && i < numbers.length ? numbers[i] : 0;
        }

        private void setNumber(int slot, int value) {
            int i = (depth - 1) * MAX_NAMES + slot;
            if (i >= 0 && i < numbers.length) {
                numbers[i] = value;
            }
        }

        /** The SERIAL of what an OBJECT is, 0 of none; NONE is the word "none". */
        private int objectAt(int slot) {
            int i = (depth - 1) * MAX_OBJECTS + slot;
            return slot != NONE && i >= 0 && i < objects.length ? objects[i] : 0;
        }

        private void setObject(int slot, int serial) {
            int i = (depth - 1) * MAX_OBJECTS + slot;
            if (slot != NONE && i >= 0 && i < objects.length) {
                objects[i] = serial;
            }
        }

        private int tryField(int t, int field) {
            int i = t * TRY_WIDTH + field;
            return i >= 0 && i < tries.length ? tries[i] : NONE;
        }

        private void setTryField(int t, int field, int value) {
            int i = t * TRY_WIDTH + field;
            if (i >= 0 && i < tries.length) {
                tries[i] = value;
            }
        }

        private void doTwoNumbers(int deed) {
            int right = pop();
            int left = pop();
            if (right == 0 && (deed == Deed.DIVIDE || deed == Deed.REMAINDER)) {
                raiseNew(Kind.PROOF, 3);
                return;
            }
            push(ofTwoNumbers(deed, left, right));
        }

        private static int ofTwoNumbers(int deed, int left, int right) {
            switch (deed) {
                case Deed.ADD:
                    return left + right;
                case Deed.SUBTRACT:
                    return left - right;
                case Deed.MULTIPLY:
                    return left * right;
                case Deed.DIVIDE:
                    return right == 0 ? 0 : left / right;
                case Deed.REMAINDER:
                    return right == 0 ? 0 : left % right;
                case Deed.LESS:
                    return left < right ? 1 : 0;
                case Deed.EQUAL:
                    return left == right ? 1 : 0;
                default:
                    return left != right ? 1 : 0;
            }
        }

        private void doNumber(int deed) {
            switch (deed) {
                case Deed.NUMBER:
                    push(fetch());
                    break;
                case Deed.LOAD:
                    push(numberAt(fetch()));
                    break;
                case Deed.STORE:
                    setNumber(fetch(), pop());
                    break;
                case Deed.DROP:
                    pop();
                    break;
                case Deed.NEGATE:
                    push(-pop());
                    break;
                case Deed.JUMP:
                    pc = fetch();
                    break;
                default:
                    int target = fetch();
                    if (pop() == 0) {
                        pc = target;
                    }
                    break;
            }
        }

        private void doObjection(int deed) {
            int first = fetch();
            switch (deed) {
                case Deed.TELL:
                    tellOf(first, fetch());
                    break;
                case Deed.IS:
                    pushIs(objectAt(first), fetch());
                    break;
                case Deed.SAME:
                    push(objectAt(first) == objectAt(fetch()) ? 1 : 0);
                    break;
                case Deed.HOLD_OTHER:
                    setObject(first, objectAt(fetch()));
                    break;
                case Deed.HOLD_CAUSE:
                    holdCause(first, objectAt(fetch()));
                    break;
                case Deed.HOLD_NEW:
                    holdNew(first);
                    break;
                case Deed.RAISE:
                    raiseHeld(objectAt(first));
                    break;
                case Deed.JOIN:
                    joinHeld(objectAt(first), objectAt(fetch()));
                    break;
                default:
                    putNote(objectAt(first));
                    break;
            }
        }

        private void tellOf(int slot, int what) {
            int serial = objectAt(slot);
            if (serial == 0) {
                raiseNew(Kind.PARTY, 1);
            } else if (what == Docket.DAYS && docket.kindOf(serial) != Kind.LATE) {
                raiseNew(Kind.FORM, 2);
            } else {
                push(docket.tell(serial, what));
            }
        }

        private void pushIs(int serial, int kind) {
            push(serial != 0 && Kind.is(docket.kindOf(serial), kind) ? 1 : 0);
        }

        private void holdCause(int slot, int serial) {
            if (serial == 0) {
                raiseNew(Kind.PARTY, 1);
            } else {
                setObject(slot, docket.causeOf(serial));
            }
        }

        private void holdNew(int slot) {
            int kind = fetch();
            int place = fetch();
            int because = fetch();
            int days = pop();
            int ground = pop();
            int serial = docket.makeInTrial(kind, ground, days, place);
            if (serial == 0) {
                state = ADJOURNED;
                return;
            }
            if (because != Deed.NOT_BECAUSE) {
                docket.settle(serial, objectAt(because));
            }
            setObject(slot, serial);
        }

        private void raiseHeld(int serial) {
            if (serial == 0) {
                raiseNew(Kind.PARTY, 1);
            } else {
                raised = serial;
            }
        }

        private void joinHeld(int serial, int cause) {
            if (serial == 0) {
                raiseNew(Kind.PARTY, 1);
                return;
            }
            int refusal = docket.join(serial, cause);
            if (refusal != NONE) {
                raiseNew(refusal, refusal == Kind.LATE ? 4 : 5);
                docket.settle(raised, serial);
            }
        }

        /** Raises what the court itself makes; where there is no room for it, nothing is raised. */
        private void raiseNew(int kind, int ground) {
            raised = docket.makeInTrial(kind, ground, 0, NONE);
            if (raised == 0) {
                state = ADJOURNED;
            }
        }

        private void putNote(int value) {
            if (!minutes.putNote(value)) {
                state = ADJOURNED;
            }
        }

        private void doCourse(int deed) {
            switch (deed) {
                case Deed.STEP:
                    countStep();
                    break;
                case Deed.NOTE:
                    putNote(pop());
                    break;
                case Deed.HEAR:
                    hear();
                    break;
                case Deed.REST:
                    rest(pop());
                    break;
                case Deed.TRY:
                    openTry();
                    break;
                case Deed.LEAVE:
                    doLastly(BY_END, 0);
                    break;
                case Deed.RESUME:
                    goOnBehindLastly();
                    break;
                default:
                    state = ADJOURNED;
                    break;
            }
        }

        private void countStep() {
            if (minutes.steps >= maxSteps) {
                state = ADJOURNED;
            } else {
                minutes.steps++;
            }
        }

        private void hear() {
            int h = fetch();
            int count = fetch();
            if (depth >= MAX_DEPTH) {
                state = ADJOURNED;
                return;
            }
            begin(h);
            for (int slot = count - 1; slot >= 0; slot--) {
                setNumber(slot, pop());
            }
        }

        private void begin(int h) {
            if (depth < 0 || depth >= MAX_DEPTH) {
                return;
            }
            returns[depth] = pc;
            depth++;
            for (int slot = 0; slot < MAX_NAMES; slot++) {
                setNumber(slot, 0);
            }
            for (int slot = 0; slot < MAX_OBJECTS; slot++) {
                setObject(slot, 0);
            }
            pc = program.startOf(h);
            minutes.begun++;
        }

        private void openTry() {
            int upholds = fetch();
            int lastly = fetch();
            setTryField(tryCount, DEPTH, depth);
            setTryField(tryCount, UPHOLDS, upholds);
            setTryField(tryCount, LASTLY, lastly);
            tryCount++;
        }

        /** Every try has a lastly in the Program, be it empty, so that all ways out of it are the same. */
        private void doLastly(int pending, int value) {
            int t = tryCount - 1;
            pc = tryField(t, LASTLY);
            depth = tryField(t, DEPTH);
            stackSize = 0;
            setTryField(t, UPHOLDS, NONE);
            setTryField(t, LASTLY, NONE);
            setTryField(t, PENDING, pending);
            setTryField(t, VALUE, value);
        }

        private void goOnBehindLastly() {
            tryCount--;
            int value = tryField(tryCount, VALUE);
            switch (tryField(tryCount, PENDING)) {
                case BY_OBJECTION:
                    raised = value;
                    break;
                case BY_REST:
                    rest(value);
                    break;
                default:
                    break;
            }
        }

        private void rest(int value) {
            for (; tryCount > 0 && tryField(tryCount - 1, DEPTH) == depth; tryCount--) {
                if (tryField(tryCount - 1, LASTLY) != NONE) {
                    doLastly(BY_REST, value);
                    return;
                }
            }
            depth--;
            stackSize = 0;
            if (depth <= 0 || depth >= returns.length) {
                state = RESTED;
                restedWith = value;
                return;
            }
            pc = returns[depth];
            push(value);
        }

        /** What is raised goes out of tries and hearings to where something is to be done about it. */
        private void goOut() {
            for (; tryCount > 0; tryCount--) {
                int uphold = upholdFor(tryField(tryCount - 1, UPHOLDS));
                if (uphold != NONE) {
                    doUphold(uphold);
                    return;
                }
                if (tryField(tryCount - 1, LASTLY) != NONE) {
                    doLastly(BY_OBJECTION, raised);
                    raised = 0;
                    return;
                }
            }
            state = RAISED;
        }

        /** An uphold stands in the Program as its KIND, its OBJECT, where the next one is, and its block. */
        private int upholdFor(int first) {
            int kind = docket.kindOf(raised);
            int uphold = first;
            for (int i = 0; i < MAX_BYTES && uphold != NONE; i++) {
                if (Kind.is(kind, program.get(uphold))) {
                    return uphold;
                }
                uphold = program.get(uphold + 2);
            }
            return NONE;
        }

        private void doUphold(int uphold) {
            int t = tryCount - 1;
            depth = tryField(t, DEPTH);
            stackSize = 0;
            setTryField(t, UPHOLDS, NONE);
            setObject(program.get(uphold + 1), raised);
            raised = 0;
            pc = uphold + 3;
        }
    }

    /** What kinds of tokens there are; a sign of one byte is that byte. */
    private static final class Token {
        static final int NAME = 130;
        static final int OBJECT = 131;
        static final int NUMBER = 132;
        static final int EQUAL = 133;
        static final int UNEQUAL = 134;
        static final int END = 135;
        static final int BAD = 136;
        static final int STOPPED = 137;

        static final String SIGNS = "{}(),;=+-*/%<";

        /** In the order of the numbers below. */
        static final String WORDS = "hearing let hold none cause because raise join to note hear into rest if else while try uphold lastly ground days weight many serial is same Any Form Late Party Merit Bias Proof ";
        static final int WORD_COUNT = 33;

        static final int FIRST_WORD = 200;
        static final int HEARING = 200;
        static final int LET = 201;
        static final int HOLD = 202;
        static final int NO_OBJECT = 203;
        static final int CAUSE = 204;
        static final int BECAUSE = 205;
        static final int RAISE = 206;
        static final int JOIN = 207;
        static final int TO = 208;
        static final int NOTE = 209;
        static final int HEAR = 210;
        static final int INTO = 211;
        static final int REST = 212;
        static final int IF = 213;
        static final int ELSE = 214;
        static final int WHILE = 215;
        static final int TRY = 216;
        static final int UPHOLD = 217;
        static final int LASTLY = 218;
        static final int GROUND = 219;
        static final int DAYS = 220;
        static final int WEIGHT = 221;
        static final int MANY = 222;
        static final int SERIAL = 223;
        static final int IS = 224;
        static final int SAME = 225;
        static final int FIRST_KIND = 226;

        static boolean isKind(int type) {
            return type >= FIRST_KIND && type < FIRST_KIND + Kind.COUNT;
        }
    }

    /** The words of a text, each with a number of its own; the quoted words come first. */
    private static final class Lexicon {
        private static final int BUCKETS = 127;

        private final long[] keys;
        private final int[] next;
        private final int[] heads = new int[BUCKETS];
        private int size;

        Lexicon(int room) {
            keys = new long[room < 0 ? 0 : room];
            next = new int[room < 0 ? 0 : room];
            Arrays.fill(heads, NONE);
        }

        void learnQuotedWords() {
            long key = 0;
            for (int i = 0; i < Token.WORDS.length(); i++) {
                char c = Token.WORDS.charAt(i);
                if (c == ' ') {
                    numberOf(key);
                    key = 0;
                } else {
                    key = longer(key, c);
                }
            }
        }

        /** A word of up to 10 letters and digits fits in a long, six bits for each, none of them 0. */
        static long longer(long key, int c) {
            int sign = c >= 'a' ? c - 'a' + 37 : c >= 'A' ? c - 'A' + 11 : c - '0' + 1;
            return key << 6 | sign;
        }

        int numberOf(long key) {
            int bucket = (int) Math.floorMod(key, (long) BUCKETS);
            int found = heads[bucket];
            for (int i = 0; i < keys.length && found >= 0 && found < keys.length; i++) {
                if (keys[found] == key) {
                    return found;
                }
                found = next[found];
            }
            if (size >= keys.length) {
                return NONE;
            }
            keys[size] = key;
            next[size] = heads[bucket];
            heads[bucket] = size;
            size++;
            return size - 1;
        }
    }

    /** The tokens of a text, in order, with END behind them. */
    private static final class Tokens {
        private static final int MAX_SIGNS = 10;
        private static final int MAX_DIGITS = 9;

        private final byte[] bytes;
        private final int end;
        private final Lexicon lexicon;
        final int[] types;
        final int[] values;
        final int[] places;
        int count;

        Tokens(byte[] bytes, int end, int maxWords) {
            this.bytes = bytes;
            this.end = end;
            int room = end < 0 ? 1 : end + 1;
            types = new int[room];
            values = new int[room];
            places = new int[room];
            lexicon = new Lexicon(maxWords);
        }

        void split() {
            lexicon.learnQuotedWords();
            int at = 0;
            for (int i = 0; i < end && at < end; i++) {
                at = behindBlanks(at);
                int c = byteAt(at);
                if (isDigit(c)) {
                    at = putNumber(at);
                } else if (isLetter(c)) {
                    at = putWord(at);
                } else if (at < end) {
                    at = putSign(at, c);
                }
            }
            put(Token.END, 0, end);
        }

        private void put(int type, int value, int place) {
            if (count < types.length) {
                types[count] = type;
                values[count] = value;
                places[count] = place;
                count++;
            }
        }

        /** 0, which begins no token, where there is none. */
        private int byteAt(int i) {
            return i >= 0 && i < end && i < bytes.length ? bytes[i] & 255 : 0;
        }

        private static boolean isDigit(int c) {
            return c >= '0' && c <= '9';
        }

        private static boolean isLetter(int c) {
            return c >= 'a' && c <= 'z' || c >= 'A' && c <= 'Z';
        }

        private static boolean isBlank(int c) {
            return c == 9 || c == 10 || c == 13 || c == 32;
        }

        private int behindBlanks(int from) {
            int at = from;
            while (at < end && isBlank(byteAt(at))) {
                at++;
            }
            return at;
        }

        private int behindLettersAndDigits(int from) {
            int at = from;
            while (at < end && (isLetter(byteAt(at)) || isDigit(byteAt(at)))) {
                at++;
            }
            return at;
        }

        private int putNumber(int at) {
            int behind = behindLettersAndDigits(at);
            int value = 0;
            boolean bad = behind - at > MAX_DIGITS;
            for (int i = at; i < behind; i++) {
                bad = bad || !isDigit(byteAt(i));
                value = value * 10 + byteAt(i) - '0';
            }
            put(bad ? Token.BAD : Token.NUMBER, value, at);
            return behind;
        }

        private int putWord(int at) {
            int behind = behindLettersAndDigits(at);
            if (behind - at > MAX_SIGNS) {
                put(Token.BAD, 0, at);
                return behind;
            }
            long key = 0;
            for (int i = at; i < behind; i++) {
                key = Lexicon.longer(key, byteAt(i));
            }
            int number = lexicon.numberOf(key);
            if (number < Token.WORD_COUNT) {
                put(Token.FIRST_WORD + number, number, at);
            } else {
                put(byteAt(at) >= 'a' ? Token.NAME : Token.OBJECT, number, at);
            }
            return behind;
        }

        private int putSign(int at, int c) {
            if (byteAt(at + 1) == '=' && (c == '=' || c == '!')) {
                put(c == '=' ? Token.EQUAL : Token.UNEQUAL, 0, at);
                return at + 2;
            }
            put(Token.SIGNS.indexOf((char) c) >= 0 ? c : Token.BAD, 0, at);
            return at + 1;
        }
    }

    /**
     * Reads a text into a Program. Behind the first FAULT 1 its token is STOPPED, with which nothing goes
     * on, so that all that is open ends by itself.
     */
    private static final class Reader {
        private static final int MAX_OPEN = 20;
        private static final int MAX_PARAMETERS = 4;
        private static final int SHORTEST_HEAR = 9;
        private static final int FAULTS = 4;

        private final Tokens tokens;
        private final Program program;
        // Of each word: the hearing that told it last, its slot there, and the hearing that it names.
        private final int[] toldIn;
        private final int[] slots;
        private final int[] hearingOf;
        // Of each hear: where its hearing stands in the Program, and its place in the text.
        private final int[] hears;
        private final int[] hearPlaces;
        private final int[] faultPlaces = new int[FAULTS + 1];
        private int hearCount;
        private int names;
        private int objects;
        private int next;
        private int type;
        private int value;
        private int place;

        Reader(byte[] bytes, int n) {
            int length = n < 0 ? 0 : n;
            int maxWords = Token.WORD_COUNT + length / 2 + 1;
            tokens = new Tokens(bytes, length, maxWords);
            // A NAME or NUMBER of one byte becomes two numbers; nothing else needs as much for a byte.
            program = new Program(2 * length + 16);
            toldIn = new int[maxWords];
            slots = new int[maxWords];
            hearingOf = new int[maxWords];
            hears = new int[length / SHORTEST_HEAR + 1];
            hearPlaces = new int[length / SHORTEST_HEAR + 1];
            Arrays.fill(toldIn, NONE);
            Arrays.fill(hearingOf, NONE);
            Arrays.fill(faultPlaces, NONE);
        }

        /** The Program is good if no fault is found. */
        Program readText() {
            tokens.split();
            advance();
            for (int i = 0; i <= MAX_BYTES && type != Token.END && type != Token.STOPPED; i++) {
                hearing();
            }
            findHearings();
            return program;
        }

        /** The FAULT that counts, 0 without. */
        int faultFound() {
            for (int kind = 1; kind <= FAULTS; kind++) {
                if (faultPlaces[kind] != NONE) {
                    return kind;
                }
            }
            return 0;
        }

        int placeOfFault(int kind) {
            return kind >= 1 && kind <= FAULTS ? faultPlaces[kind] : NONE;
        }

        /** Places are met in their order, so the first one stays. */
        private void putFault(int kind, int where) {
            if (kind >= 1 && kind <= FAULTS && faultPlaces[kind] == NONE) {
                faultPlaces[kind] = where;
            }
        }

        /** To the next token; END is never gone beyond, since nothing takes it. */
        private void advance() {
            if (type != Token.STOPPED && next < tokens.count) {
                type = tokens.types[next];
                value = tokens.values[next];
                place = tokens.places[next];
                next++;
            }
        }

        private void fail() {
            if (type != Token.STOPPED) {
                faultPlaces[1] = place;
            }
            type = Token.STOPPED;
        }

        private void take(int expected) {
            if (type == expected) {
                advance();
            } else {
                fail();
            }
        }

        private void takeOpening(int expected, int depth) {
            if (type == expected && depth < MAX_OPEN) {
                advance();
            } else {
                fail();
            }
        }

        private void emit(int deed) {
            program.put(deed);
        }

        private void emit(int deed, int a) {
            program.put(deed);
            program.put(a);
        }

        private void emit(int deed, int a, int b) {
            program.put(deed);
            program.put(a);
            program.put(b);
        }

        private void hearing() {
            int begins = place;
            take(Token.HEARING);
            nameHearing(begins);
            takeOpening('(', 0);
            int start = program.size;
            int count = parameters();
            take(')');
            block(0);
            emit(Deed.NUMBER, 0);
            emit(Deed.REST);
            program.addHearing(start, count);
        }

        private void nameHearing(int begins) {
            if (program.hearings >= Program.MAX_HEARINGS) {
                putFault(3, begins);
            }
            names = 0;
            objects = 0;
            if (type == Token.NAME && value >= 0 && value < hearingOf.length) {
                if (hearingOf[value] == NONE) {
                    hearingOf[value] = program.hearings;
                } else {
                    putFault(2, place);
                }
            }
            take(Token.NAME);
        }

        private int parameters() {
            if (type == ')') {
                return 0;
            }
            int count = 0;
            for (int i = 0; i <= MAX_BYTES && type != Token.STOPPED; i++) {
                if (count >= MAX_PARAMETERS) {
                    putFault(3, place);
                }
                int word = value;
                tell(word, newName());
                take(Token.NAME);
                count++;
                if (type != ',') {
                    break;
                }
                advance();
            }
            return count;
        }

        /** The slot of a NAME that is about to be told. */
        private int newName() {
            if (type == Token.NAME) {
                if (isTold(value)) {
                    putFault(2, place);
                } else if (names >= Session.MAX_NAMES) {
                    putFault(3, place);
                }
            }
            names++;
            return names - 1;
        }

        private void tell(int word, int slot) {
            if (word >= 0 && word < toldIn.length) {
                toldIn[word] = program.hearings;
                slots[word] = slot;
            }
        }

        private boolean isTold(int word) {
            return word >= 0 && word < toldIn.length && toldIn[word] == program.hearings;
        }

        private int slotOf(int word) {
            return word >= 0 && word < slots.length ? slots[word] : 0;
        }

        private int name() {
            if (type != Token.NAME) {
                fail();
                return 0;
            }
            if (!isTold(value)) {
                putFault(2, place);
            }
            int slot = slotOf(value);
            advance();
            return slot;
        }

        private int object() {
            if (type != Token.OBJECT) {
                fail();
                return 0;
            }
            if (!isTold(value)) {
                if (objects >= Session.MAX_OBJECTS) {
                    putFault(3, place);
                }
                tell(value, objects);
                objects++;
            }
            int slot = slotOf(value);
            advance();
            return slot;
        }

        private int objectOrNone() {
            if (type == Token.NO_OBJECT) {
                advance();
                return NONE;
            }
            return object();
        }

        private int kind() {
            int kind = type - Token.FIRST_KIND;
            if (Token.isKind(type)) {
                advance();
                return kind;
            }
            fail();
            return NONE;
        }

        private void block(int depth) {
            takeOpening('{', depth);
            for (int i = 0; i <= MAX_BYTES && type != '}' && type != Token.STOPPED; i++) {
                statement(depth + 1);
            }
            take('}');
        }

        private void statement(int depth) {
            switch (type) {
                case Token.IF:
                    choice(depth);
                    return;
                case Token.WHILE:
                    loop(depth);
                    return;
                case Token.TRY:
                    attempt(depth);
                    return;
                default:
                    break;
            }
            emit(Deed.STEP);
            switch (type) {
                case Token.LET:
                    let(depth);
                    break;
                case Token.NAME:
                    assignment(depth);
                    break;
                case Token.HOLD:
                    advance();
                    int slot = object();
                    take('=');
                    if (Token.isKind(type)) {
                        newObjection(slot, depth);
                    } else {
                        otherObjection(slot);
                    }
                    break;
                case Token.RAISE:
                    raising();
                    break;
                case Token.JOIN:
                    joining();
                    break;
                case Token.NOTE:
                    noting(depth);
                    break;
                case Token.HEAR:
                    hearingOther(depth);
                    break;
                case Token.REST:
                    resting(depth);
                    break;
                default:
                    fail();
                    break;
            }
            take(';');
        }

        private void choice(int depth) {
            emit(Deed.STEP);
            advance();
            expression(depth);
            emit(Deed.JUMP_IF_ZERO);
            int toElse = program.put(NONE);
            block(depth);
            if (type != Token.ELSE) {
                program.change(toElse, program.size);
                return;
            }
            advance();
            emit(Deed.JUMP);
            int toEnd = program.put(NONE);
            program.change(toElse, program.size);
            block(depth);
            program.change(toEnd, program.size);
        }

        private void loop(int depth) {
            int start = program.size;
            emit(Deed.STEP);
            advance();
            expression(depth);
            emit(Deed.JUMP_IF_ZERO);
            int toEnd = program.put(NONE);
            block(depth);
            emit(Deed.JUMP, start);
            program.change(toEnd, program.size);
        }

        private void attempt(int depth) {
            emit(Deed.STEP);
            advance();
            emit(Deed.TRY);
            int toUphold = program.put(NONE);
            int toLastly = program.put(NONE);
            block(depth);
            emit(Deed.LEAVE);
            if (type != Token.UPHOLD && type != Token.LASTLY) {
                fail();
            }
            for (int i = 0; i <= MAX_BYTES && type == Token.UPHOLD; i++) {
                program.change(toUphold, program.size);
                advance();
                program.put(kind());
                program.put(type == Token.OBJECT ? object() : NONE);
                toUphold = program.put(NONE);
                block(depth);
                emit(Deed.LEAVE);
            }
            program.change(toLastly, program.size);
            if (type == Token.LASTLY) {
                advance();
                block(depth);
            }
            emit(Deed.RESUME);
        }

        private void let(int depth) {
            advance();
            int word = value;
            int slot = newName();
            take(Token.NAME);
            take('=');
            expression(depth);
            tell(word, slot);
            emit(Deed.STORE, slot);
        }

        private void assignment(int depth) {
            int slot = name();
            take('=');
            expression(depth);
            emit(Deed.STORE, slot);
        }

        private void otherObjection(int slot) {
            if (type == Token.CAUSE) {
                advance();
                emit(Deed.HOLD_CAUSE, slot, object());
            } else {
                emit(Deed.HOLD_OTHER, slot, objectOrNone());
            }
        }

        private void newObjection(int slot, int depth) {
            int madeAt = place;
            int made = kind();
            takeOpening('(', depth);
            expression(depth + 1);
            if (type == ',' && made == Kind.LATE) {
                advance();
                expression(depth + 1);
            } else {
                emit(Deed.NUMBER, 0);
            }
            take(')');
            int because = Deed.NOT_BECAUSE;
            if (type == Token.BECAUSE) {
                advance();
                because = objectOrNone();
            }
            emit(Deed.HOLD_NEW, slot, made);
            program.put(madeAt);
            program.put(because);
        }

        private void raising() {
            advance();
            emit(Deed.RAISE, object());
        }

        private void joining() {
            advance();
            int slot = object();
            take(Token.TO);
            emit(Deed.JOIN, slot, objectOrNone());
        }

        private void noting(int depth) {
            advance();
            if (type != Token.OBJECT) {
                expression(depth);
                emit(Deed.NOTE);
                return;
            }
            int slot = object();
            if (type == Token.IS || type == Token.SAME) {
                int deed = question();
                emit(deed, slot, deed == Deed.IS ? kind() : object());
                restOfExpression(depth);
                emit(Deed.NOTE);
            } else {
                emit(Deed.NOTE_OBJECT, slot);
            }
        }

        private void hearingOther(int depth) {
            advance();
            int word = value;
            int nameAt = place;
            take(Token.NAME);
            takeOpening('(', depth);
            int count = 0;
            for (int i = 0; i <= MAX_BYTES && type != ')' && type != Token.STOPPED; i++) {
                if (count > 0) {
                    take(',');
                }
                expression(depth + 1);
                count++;
            }
            take(')');
            emit(Deed.HEAR, word, count);
            keepHear(program.size - 2, nameAt);
            if (type == Token.INTO) {
                advance();
                emit(Deed.STORE, name());
            } else {
                emit(Deed.DROP);
            }
        }

        private void keepHear(int where, int nameAt) {
            if (hearCount < hears.length && hearCount < hearPlaces.length) {
                hears[hearCount] = where;
                hearPlaces[hearCount] = nameAt;
                hearCount++;
            }
        }

        /** A hear may stand ahead of its hearing, so hearings are looked for at last. */
        private void findHearings() {
            for (int i = 0; i < hearCount && i < hears.length && i < hearPlaces.length; i++) {
                int word = program.get(hears[i]);
                int h = word >= 0 && word < hearingOf.length ? hearingOf[word] : NONE;
                if (h == NONE || program.parametersOf(h) != program.get(hears[i] + 1)) {
                    putFault(4, hearPlaces[i]);
                }
                program.change(hears[i], h);
            }
        }

        private void resting(int depth) {
            advance();
            if (type == ';') {
                emit(Deed.NUMBER, 0);
            } else {
                expression(depth);
            }
            emit(Deed.REST);
        }

        private void expression(int depth) {
            factor(depth);
            restOfExpression(depth);
        }

        /** An expression whose first factor is read already. */
        private void restOfExpression(int depth) {
            restOfProduct(depth);
            restOfSum(depth);
            int deed = type == '<' ? Deed.LESS : type == Token.EQUAL ? Deed.EQUAL : Deed.UNEQUAL;
            if (type == '<' || type == Token.EQUAL || type == Token.UNEQUAL) {
                advance();
                factor(depth);
                restOfProduct(depth);
                restOfSum(depth);
                emit(deed);
            }
        }

        private void restOfSum(int depth) {
            for (int i = 0; i <= MAX_BYTES && (type == '+' || type == '-'); i++) {
                int deed = type == '+' ? Deed.ADD : Deed.SUBTRACT;
                advance();
                factor(depth);
                restOfProduct(depth);
                emit(deed);
            }
        }

        private void restOfProduct(int depth) {
            for (int i = 0; i <= MAX_BYTES && (type == '*' || type == '/' || type == '%'); i++) {
                int deed = type == '*' ? Deed.MULTIPLY : type == '/' ? Deed.DIVIDE : Deed.REMAINDER;
                advance();
                factor(depth);
                emit(deed);
            }
        }

        private void factor(int depth) {
            switch (type) {
                case Token.NUMBER:
                    emit(Deed.NUMBER, value);
                    advance();
                    break;
                case Token.NAME:
                    emit(Deed.LOAD, name());
                    break;
                case Token.OBJECT:
                    int slot = object();
                    int deed = question();
                    emit(deed, slot, deed == Deed.IS ? kind() : object());
                    break;
                case '-':
                    takeOpening('-', depth);
                    factor(depth + 1);
                    emit(Deed.NEGATE);
                    break;
                case '(':
                    takeOpening('(', depth);
                    expression(depth + 1);
                    take(')');
                    break;
                default:
                    int what = toldProperty();
                    emit(Deed.TELL, object(), what);
                    break;
            }
        }

        /** The deed that asks what stands behind an OBJECT. */
        private int question() {
            int deed = type == Token.IS ? Deed.IS : Deed.SAME;
            if (type == Token.IS || type == Token.SAME) {
                advance();
            } else {
                fail();
            }
            return deed;
        }

        /** What a word ahead of an OBJECT asks of it. */
        private int toldProperty() {
            int what = property();
            if (what == NONE) {
                fail();
            } else {
                advance();
            }
            return what;
        }

        private int property() {
            switch (type) {
                case Token.GROUND:
                    return Docket.GROUND;
                case Token.DAYS:
                    return Docket.DAYS;
                case Token.WEIGHT:
                    return Docket.WEIGHT;
                case Token.MANY:
                    return Docket.MANY;
                case Token.SERIAL:
                    return Docket.SERIAL;
                default:
                    return NONE;
            }
        }
    }
}
