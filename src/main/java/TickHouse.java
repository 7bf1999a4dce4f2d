import java.util.Arrays;
import java.util.NoSuchElementException;

/**
 * Programs of flows that go by ticks: read and judged as a MODULE, run as INSTANCES, proved over all inputs.
 * The document's words for things (NODE, EQUATION, STATE ..) are used for them here, too.
 */
public final class TickHouse {
    public static final int NONE = -1;

    private static final int MOST_TEXT = 700;
    private static final int MOST_NODES = 8;
    private static final int MOST_STATES = 6;
    private static final int MOST_DEEP = 20;
    private static final int MOST_DIGITS = 9;
    private static final int MOST_TOLD = 1000000;
    private static final int MOST_INSTANCES = 60;
    private static final int MOST_VALUES = 300;
    private static final int MOST_MADE = 8;
    private static final int MOST_MEMORIES = 300;
    private static final int MOST_PROVED_INPUTS = 4;
    private static final int KEPT_PLACES = 4;
    private static final int LETTERS = 26;
    private static final int SLOTS = MOST_NODES * LETTERS;
    /** EQUATIONS, their letters, AUTOMATA, STATES and transitions take two characters each, at the least. */
    private static final int MOST_PAIRS = MOST_TEXT / 2;
    private static final int MOST_STEPS = 2048;

    private static final int INT = 0;
    private static final int TRUTH = 1;

    private static final int INPUT = 1;
    private static final int OUTPUT = 2;
    private static final int LOCAL = 3;

    /** A clock that is neither of these is twice the slot of its letter, and one more for a clock with a '!'. */
    private static final int BASE = -1;
    private static final int FREE = -2;

    /** Owners of a letter's equations: an AUTOMATON's number, or one of these. */
    private static final int BODY = -1;
    private static final int NOBODY = -2;

    private static final int NUMBER = 0;
    private static final int WORD = 1;
    private static final int LETTER = 2;
    private static final int LAST = 3;
    private static final int NEGATE = 4;
    private static final int NOT = 5;
    private static final int DELAY = 6;
    private static final int OR = 7;
    private static final int AND = 8;
    private static final int EQUAL = 9;
    private static final int DIFFER = 10;
    private static final int LESS = 11;
    private static final int MORE = 12;
    private static final int ADD = 13;
    private static final int TAKE = 14;
    private static final int TIMES = 15;
    private static final int DIVIDE = 16;
    private static final int REST = 17;
    private static final int CHOOSE = 18;
    private static final int ARROW = 19;
    private static final int SAMPLE = 20;
    private static final int MERGE = 21;
    private static final int CALL = 22;

    /** Ranks of the operators between two parts; those of one rank stand side by side, but COMPARING ones. */
    private static final int COMPARING = 2;
    private static final int HIGHEST = 4;

    /** A step of a NODE's tick is its kind, shifted, and the number of what it is about. */
    private static final int STEP_SHIFT = 10;
    private static final int STEP_ABOUT = 1023;
    private static final int WORK = 0;
    private static final int ASSIGN = 1;
    private static final int STRONG = 2;
    private static final int KEEP = 3;
    private static final int KEEP_LAST = 4;
    private static final int WEAK = 5;

    private final char[] text = new char[MOST_TEXT];
    private int length;
    private int faultKind;
    private int faultPlace;
    private Program program = new Program();
    /** A TEXT is read into this one, so that one with a FAULT leaves the MODULE as it is. */
    private Program spare = new Program();
    private final Machine machine = new Machine(program);
    private final Instance[] instances = new Instance[MOST_MADE];
    private int made;
    private final Prover prover = new Prover();

    public TickHouse() {
        for (int k = 0; k < MOST_MADE; k++) {
            instances[k] = new Instance();
        }
    }

    public boolean type(long word, int n) {
        if (n < 1 || n > 8 || length + n > MOST_TEXT) {
            return false;
        }
        for (int k = 0; k < n; k++) {
            int c = byteOf(word, k);
            if (c < 33 || c > 126) {
                return false;
            }
        }
        for (int k = n - 1; k >= 0; k--) {
            text[length] = (char) byteOf(word, k);
            length++;
        }
        return true;
    }

    private static int byteOf(long word, int k) {
        return (int) (word >>> (8 * k)) & 255;
    }

    public int module() throws IllegalArgumentException {
        Reader reader = new Reader(text, length, spare);
        Judge judge = new Judge(spare);
        boolean isRead = reader.read();
        faultKind = isRead ? judge.judge(reader.twice) : 1;
        faultPlace = !isRead ? reader.at : faultKind > 0 ? judge.least : 0;
        length = 0;
        if (faultKind > 0) {
            throw new IllegalArgumentException("the TEXT has a FAULT");
        }
        new Planner(spare).plan();
        Program old = program;
        program = spare;
        spare = old;
        machine.load(program);
        made = 0;
        return program.nodes;
    }

    public int fault(int what) {
        return what == 0 ? faultKind : what == 1 ? faultPlace : NONE;
    }

    public int node(int k, int what) {
        if (!program.has(k)) {
            return NONE;
        }
        switch (what) {
            case 0: return program.name[k];
            case 1: return program.inputs[k];
            case 2: return program.outputs[k];
            case 3: return program.locals[k];
            case 4: return program.instances[k];
            case 5: return program.values[k];
            default: return NONE;
        }
    }

    public int make(int k) {
        if (!program.canMake(k) || made >= MOST_MADE) {
            return NONE;
        }
        instances[made].begin(program, k);
        made++;
        return made - 1;
    }

    private boolean isMade(int instance) {
        return instance >= 0 && instance < made;
    }

    public boolean put(int instance, int i, int v) {
        if (!isMade(instance) || i < 0 || i >= program.inputs[instances[instance].nodeNumber]) {
            return false;
        }
        Instance one = instances[instance];
        int slot = program.inputLetter[one.nodeNumber * LETTERS + i];
        boolean truth = program.letters.sort[slot] == TRUTH;
        one.inputs[i] = truth && v != 0 ? 1 : v;
        return true;
    }

    public int tick(int instance) {
        if (!isMade(instance)) {
            return NONE;
        }
        Instance one = instances[instance];
        if (!machine.goes(one.nodeNumber, one.inputs, one.memory, 0)) {
            return 1 + machine.failed;
        }
        one.takeOver(machine, program.values[one.nodeNumber]);
        return 0;
    }

    public int out(int instance, int i) throws NoSuchElementException {
        if (!isMade(instance) || !instances[instance].ticked
                || i < 0 || i >= program.outputs[instances[instance].nodeNumber]) {
            throw new NoSuchElementException("no such OUTPUT, or no tick yet");
        }
        int node = instances[instance].nodeNumber;
        return instances[instance].letterValue[program.outputLetter[node * LETTERS + i] - node * LETTERS];
    }

    public int flow(int instance, int letter) throws NoSuchElementException {
        if (!isMade(instance) || letter < 'a' || letter > 'z'
                || !instances[instance].ticked || !instances[instance].letterOn[letter - 'a']) {
            throw new NoSuchElementException("no such letter, no tick yet, or not PRESENT");
        }
        return instances[instance].letterValue[letter - 'a'];
    }

    public int state(int instance, int k) {
        if (!isMade(instance)) {
            return NONE;
        }
        Instance one = instances[instance];
        int from = program.automatonFrom[one.nodeNumber];
        if (k < 0 || k >= program.automatonFrom[one.nodeNumber + 1] - from) {
            return NONE;
        }
        return one.memory[program.automata.cell[from + k]];
    }

    public int ticks(int instance) {
        return isMade(instance) ? instances[instance].tickCount : NONE;
    }

    public boolean save(int instance, int k) {
        if (!isMade(instance) || k < 0 || k >= KEPT_PLACES) {
            return false;
        }
        instances[instance].keep(k);
        return true;
    }

    public boolean back(int instance, int k) {
        if (!isMade(instance) || k < 0 || k >= KEPT_PLACES) {
            return false;
        }
        return instances[instance].bringBack(k);
    }

    public int prove(int k, int i, int most) {
        if (!canProve(k) || most < 1 || most > MOST_MEMORIES || i < 0 || i >= program.outputs[k]) {
            return NONE;
        }
        int slot = program.outputLetter[k * LETTERS + i];
        if (program.letters.sort[slot] != TRUTH) {
            return NONE;
        }
        prover.begin(machine, k, NONE, slot, most);
        return prover.search();
    }

    public int alike(int k, int other, int most) {
        if (!canProve(k) || !canProve(other) || most < 1 || most > MOST_MEMORIES) {
            return NONE;
        }
        if (program.inputs[k] != program.inputs[other] || !haveSameOutputs(k, other)) {
            return NONE;
        }
        prover.begin(machine, k, other, NONE, most);
        return prover.search();
    }

    private boolean canProve(int k) {
        if (!program.canMake(k) || program.inputs[k] > MOST_PROVED_INPUTS) {
            return false;
        }
        for (int i = 0; i < program.inputs[k]; i++) {
            if (program.letters.sort[program.inputLetter[k * LETTERS + i]] != TRUTH) {
                return false;
            }
        }
        return true;
    }

    private boolean haveSameOutputs(int k, int other) {
        if (program.outputs[k] != program.outputs[other]) {
            return false;
        }
        for (int i = 0; i < program.outputs[k]; i++) {
            int one = program.outputLetter[k * LETTERS + i];
            int two = program.outputLetter[other * LETTERS + i];
            if (program.letters.sort[one] != program.letters.sort[two]) {
                return false;
            }
        }
        return true;
    }

    public int run(int tick) {
        if (!prover.hasTold) {
            return NONE;
        }
        if (tick == NONE) {
            return prover.pathLength;
        }
        if (tick == -2) {
            return prover.found;
        }
        return tick >= 0 && tick < prover.pathLength ? prover.path[tick] : NONE;
    }

    public int total(int what) {
        switch (what) {
            case 0: return program.nodes;
            case 1: return length;
            case 2: return made;
            default: return NONE;
        }
    }

    /** A MODULE: its NODES, and the tables of all that stands in them. */
    private static final class Program {
        int nodes;
        final int[] name = new int[MOST_NODES];
        final int[] place = new int[MOST_NODES];
        final int[] inputs = new int[MOST_NODES];
        final int[] outputs = new int[MOST_NODES];
        final int[] locals = new int[MOST_NODES];
        /** Slots of INPUTS and OUTPUTS in the order told, LETTERS of them for each NODE. */
        final int[] inputLetter = new int[SLOTS];
        final int[] outputLetter = new int[SLOTS];
        /** Where each NODE's own rows of the tables begin; they end where the next one's begin. */
        final int[] partFrom = new int[MOST_NODES + 1];
        final int[] equationFrom = new int[MOST_NODES + 1];
        final int[] automatonFrom = new int[MOST_NODES + 1];
        final int[] stepFrom = new int[MOST_NODES + 1];
        final int[] steps = new int[MOST_STEPS];
        final int[] instances = new int[MOST_NODES];
        final int[] values = new int[MOST_NODES];
        /** What a new INSTANCE of each NODE remembers, MOST_VALUES of them for each NODE. */
        final int[] firstMemory = new int[MOST_NODES * MOST_VALUES];
        final Parts parts = new Parts();
        final Letters letters = new Letters();
        final Equations equations = new Equations();
        final Automata automata = new Automata();

        void clear() {
            nodes = 0;
            Arrays.fill(inputs, 0);
            Arrays.fill(outputs, 0);
            Arrays.fill(locals, 0);
            parts.count = 0;
            equations.count = 0;
            equations.heads = 0;
            automata.count = 0;
            automata.states = 0;
            automata.moves = 0;
            letters.clear();
        }

        boolean has(int k) {
            return k >= 0 && k < nodes;
        }

        boolean canMake(int k) {
            return has(k) && instances[k] <= MOST_INSTANCES && values[k] <= MOST_VALUES;
        }

        /** The NODE of that name among the first ones, NONE if there is none. */
        int find(int wanted, int among) {
            for (int k = 0; k < among && k < MOST_NODES; k++) {
                if (name[k] == wanted) {
                    return k;
                }
            }
            return NONE;
        }

        void tellFlow(int n, int role, int slot) {
            if (role == INPUT && inputs[n] < LETTERS) {
                inputLetter[n * LETTERS + inputs[n]] = slot;
                inputs[n]++;
            } else if (role == OUTPUT && outputs[n] < LETTERS) {
                outputLetter[n * LETTERS + outputs[n]] = slot;
                outputs[n]++;
            } else {
                locals[n]++;
            }
        }

        void endNode(int n) {
            partFrom[n + 1] = parts.count;
            equationFrom[n + 1] = equations.count;
            automatonFrom[n + 1] = automata.count;
            nodes = n + 1;
        }
    }

    /** All parts of all X, each one behind its own parts, so that going by numbers goes from within outwards. */
    private static final class Parts {
        int count;
        final int[] op = new int[MOST_TEXT];
        /** Where it begins, with the ( ) round it; the place is that of its letter, NAME or operator. */
        final int[] begin = new int[MOST_TEXT];
        final int[] place = new int[MOST_TEXT];
        /** The number, the letter's slot, the clock of an @, the NODE that is called. */
        final int[] what = new int[MOST_TEXT];
        final int[] first = new int[MOST_TEXT];
        final int[] next = new int[MOST_TEXT];
        final int[] hat = new int[MOST_TEXT];
        final int[] hatPlace = new int[MOST_TEXT];
        final int[] state = new int[MOST_TEXT];
        /** Behind a ~: needed only when the tick ends. */
        final boolean[] late = new boolean[MOST_TEXT];
        /** How many letters its EQUATION has, if it is the whole X of one. */
        final int[] heads = new int[MOST_TEXT];
        final int[] sort = new int[MOST_TEXT];
        final int[] clock = new int[MOST_TEXT];
        final boolean[] bare = new boolean[MOST_TEXT];
        final int[] cell = new int[MOST_TEXT];

        int add(int kind, int from, int at, int about) {
            int part = count;
            count++;
            op[part] = kind;
            begin[part] = from;
            place[part] = at;
            what[part] = about;
            first[part] = NONE;
            next[part] = NONE;
            hat[part] = NONE;
            hatPlace[part] = NONE;
            heads[part] = 0;
            cell[part] = NONE;
            return part;
        }

        boolean isCall(int part) {
            return op[part] == CALL && what[part] >= 0 && what[part] < MOST_NODES;
        }

        /** The slot of the letter that stands in the part itself as a name of a clock or of a flow; NONE without. */
        int ownLetter(int part) {
            switch (op[part]) {
                case LETTER: return what[part];
                case MERGE: return what[part];
                case SAMPLE: return what[part] >> 1;
                case CALL: return hat[part];
                default: return NONE;
            }
        }
    }

    /** The letters of each NODE: the slot of one is its number, and LETTERS more for each NODE ahead. */
    private static final class Letters {
        /** The place where it is told, NONE if it is not. */
        final int[] told = new int[SLOTS];
        final int[] role = new int[SLOTS];
        final int[] sort = new int[SLOTS];
        final int[] clock = new int[SLOTS];
        final int[] clockPlace = new int[SLOTS];
        final boolean[] lasting = new boolean[SLOTS];
        final int[] last = new int[SLOTS];
        final int[] lastCell = new int[SLOTS];
        final int[] owner = new int[SLOTS];
        final int[] ownerState = new int[SLOTS];
        /** Its place in the first one of its EQUATIONS. */
        final int[] headPlace = new int[SLOTS];
        final boolean[] bare = new boolean[SLOTS];
        final int[] hangs = new int[SLOTS];
        /** How many of its EQUATIONS are not yet among the steps. */
        final int[] pending = new int[SLOTS];

        void clear() {
            Arrays.fill(told, NONE);
            Arrays.fill(role, 0);
            Arrays.fill(clock, BASE);
            Arrays.fill(clockPlace, NONE);
            Arrays.fill(lastCell, NONE);
            Arrays.fill(owner, NOBODY);
            Arrays.fill(ownerState, NONE);
            Arrays.fill(headPlace, NONE);
            Arrays.fill(hangs, 0);
            Arrays.fill(pending, 0);
            for (int slot = 0; slot < SLOTS; slot++) {
                lasting[slot] = false;
                bare[slot] = false;
            }
        }

        void tell(int slot, int at, int asRole, int ofSort) {
            told[slot] = at;
            role[slot] = asRole;
            sort[slot] = ofSort;
        }

        void tellClock(int slot, int code, int at) {
            clock[slot] = code;
            clockPlace[slot] = at;
        }

        void tellLast(int slot, int value) {
            lasting[slot] = true;
            last[slot] = sort[slot] == TRUTH && value != 0 ? 1 : value;
        }

        static int bit(int slot) {
            return 1 << (slot % LETTERS);
        }
    }

    /** EQUATIONS, those of STATES too, with their letters (heads). */
    private static final class Equations {
        int count;
        int heads;
        /** Where its own letters begin; they end where the next one's begin. */
        final int[] headFrom = new int[MOST_PAIRS + 1];
        final int[] partFrom = new int[MOST_PAIRS];
        final int[] x = new int[MOST_PAIRS];
        final int[] state = new int[MOST_PAIRS];
        final int[] needs = new int[MOST_PAIRS];
        final boolean[] done = new boolean[MOST_PAIRS];
        final int[] headLetter = new int[MOST_PAIRS];
        final int[] headPlace = new int[MOST_PAIRS];

        int add(int inState, int fromPart) {
            int e = count;
            count++;
            headFrom[e] = heads;
            headFrom[e + 1] = heads;
            partFrom[e] = fromPart;
            x[e] = fromPart;
            state[e] = inState;
            needs[e] = 0;
            done[e] = false;
            return e;
        }

        void addHead(int e, int slot, int at) {
            headLetter[heads] = slot;
            headPlace[heads] = at;
            heads++;
            headFrom[e + 1] = heads;
        }
    }

    /** AUTOMATA, their STATES and their transitions (moves). */
    private static final class Automata {
        int count;
        int states;
        int moves;
        final int[] dollar = new int[MOST_PAIRS];
        /** Where its own STATES and transitions begin; they end where the next one's begin. */
        final int[] stateFrom = new int[MOST_PAIRS + 1];
        final int[] moveFrom = new int[MOST_PAIRS + 1];
        final int[] cell = new int[MOST_PAIRS];
        /** The letters in its strong transitions. */
        final int[] needs = new int[MOST_PAIRS];
        final boolean[] done = new boolean[MOST_PAIRS];
        /** Of STATES: the AUTOMATON, the letters that have equations there, where what it remembers lies. */
        final int[] owner = new int[MOST_PAIRS];
        final int[] stateLetters = new int[MOST_PAIRS];
        final int[] cellFrom = new int[MOST_PAIRS];
        final int[] cellTo = new int[MOST_PAIRS];
        /** Of transitions. */
        final int[] moveState = new int[MOST_PAIRS];
        final boolean[] strong = new boolean[MOST_PAIRS];
        final boolean[] anew = new boolean[MOST_PAIRS];
        final int[] movePartFrom = new int[MOST_PAIRS];
        final int[] moveX = new int[MOST_PAIRS];
        final int[] target = new int[MOST_PAIRS];
        final int[] targetPlace = new int[MOST_PAIRS];

        int add(int at) {
            int a = count;
            count++;
            dollar[a] = at;
            stateFrom[a] = states;
            stateFrom[a + 1] = states;
            moveFrom[a] = moves;
            moveFrom[a + 1] = moves;
            cell[a] = 0;
            needs[a] = 0;
            done[a] = false;
            return a;
        }

        int addState(int a) {
            int s = states;
            states++;
            stateFrom[a + 1] = states;
            owner[s] = a;
            stateLetters[s] = 0;
            cellFrom[s] = 0;
            cellTo[s] = 0;
            return s;
        }

        int addMove(int s, boolean isStrong, int fromPart) {
            int m = moves;
            moves++;
            moveFrom[owner[s] + 1] = moves;
            moveState[m] = s;
            strong[m] = isStrong;
            movePartFrom[m] = fromPart;
            return m;
        }
    }

    /** Reads a TEXT into a Program by the rules of its form; stops at the first character that can't stand. */
    private static final class Reader {
        private final char[] text;
        private final int length;
        private final Program program;
        private final Parts parts;
        private final Equations equations;
        private final Automata automata;
        int at;
        /** The least place of a letter that is told twice: seen here alone, for the first telling is what is kept. */
        int twice = MOST_TEXT;
        private int reading;
        private int state = NONE;
        private boolean inMove;
        private int depth;
        private int parens;
        private int delays;

        Reader(char[] text, int length, Program program) {
            this.text = text;
            this.length = length;
            this.program = program;
            this.parts = program.parts;
            this.equations = program.equations;
            this.automata = program.automata;
        }

        /** False if a character (or the end) at this.at can't stand. */
        boolean read() {
            program.clear();
            try {
                for (int n = 0; n <= MOST_NODES; n++) {
                    if (n > 0 && at >= length) {
                        return true;
                    }
                    readHead(n);
                    for (int k = 0; k < MOST_TEXT && (isLetter(look()) || look() == '$'); k++) {
                        if (look() == '$') {
                            readAutomaton();
                        } else {
                            readEquation();
                        }
                    }
                    expect('}');
                    program.endNode(n);
                }
            } catch (IllegalArgumentException refused) {
                return false;
            }
            return false;
        }

        private void refuse() {
            throw new IllegalArgumentException("a character that can't stand");
        }

        private char look() {
            return at < length ? text[at] : 0;
        }

        private void expect(char wanted) {
            if (look() != wanted) {
                refuse();
            }
            at++;
        }

        private static boolean isLetter(char c) {
            return c >= 'a' && c <= 'z';
        }

        private static boolean isDigit(char c) {
            return c >= '0' && c <= '9';
        }

        private static boolean isName(char c) {
            return c >= 'A' && c <= 'H';
        }

        private boolean atArrow() {
            return look() == '-' && at + 1 < length && text[at + 1] == '>';
        }

        /** The slot of the letter here. */
        private int takeLetter() {
            char c = look();
            if (!isLetter(c)) {
                refuse();
            }
            at++;
            return reading * LETTERS + (c - 'a');
        }

        /** The clock of the letter here, with a ! ahead of it or not. */
        private int takeClock() {
            int not = 0;
            if (look() == '!') {
                not = 1;
                at++;
            }
            return 2 * takeLetter() + not;
        }

        private int takeNumber() {
            int value = 0;
            if (!isDigit(look())) {
                refuse();
            }
            for (int k = 0; k < MOST_DIGITS && isDigit(look()); k++) {
                value = value * 10 + (look() - '0');
                at++;
            }
            return value;
        }

        private void readHead(int n) {
            if (n >= MOST_NODES || !isName(look())) {
                refuse();
            }
            reading = n;
            program.name[n] = look();
            program.place[n] = at;
            at++;
            expect('(');
            if (look() != ')') {
                readFlows(INPUT);
            }
            expect(')');
            readFlows(OUTPUT);
            if (look() == '|') {
                at++;
                readFlows(LOCAL);
            }
            expect('{');
        }

        private void readFlows(int role) {
            for (int k = 0; k < MOST_TEXT; k++) {
                readFlow(role);
                if (look() != ',') {
                    break;
                }
                at++;
            }
        }

        private void readFlow(int role) {
            Letters letters = program.letters;
            int place = at;
            int slot = takeLetter();
            char c = look();
            if (c != 'i' && c != 'b') {
                refuse();
            }
            at++;
            boolean isFirst = letters.told[slot] == NONE;
            if (isFirst) {
                letters.tell(slot, place, role, c == 'b' ? TRUTH : INT);
                program.tellFlow(reading, role, slot);
            } else {
                twice = Math.min(twice, place);
            }
            if (role == LOCAL && look() == '@') {
                at++;
                int code = takeClock();
                if (isFirst) {
                    letters.tellClock(slot, code, at - 1);
                }
            }
            if (role != INPUT && look() == '=') {
                at++;
                int value = takeNumber();
                if (isFirst) {
                    letters.tellLast(slot, value);
                }
            }
        }

        private void readEquation() {
            if (equations.count >= MOST_PAIRS) {
                refuse();
            }
            int e = equations.add(state, parts.count);
            for (int k = 0; k < MOST_TEXT; k++) {
                int place = at;
                int slot = takeLetter();
                if (equations.heads >= MOST_PAIRS) {
                    refuse();
                }
                equations.addHead(e, slot, place);
                if (look() != ',') {
                    break;
                }
                at++;
            }
            expect('=');
            int x = readX();
            equations.x[e] = x;
            parts.heads[x] = equations.headFrom[e + 1] - equations.headFrom[e];
            expect(';');
        }

        private void readAutomaton() {
            if (automata.count >= MOST_PAIRS) {
                refuse();
            }
            int a = automata.add(at);
            at++;
            for (int s = 0; s < MOST_STATES; s++) {
                if (s > 0 && look() != '{') {
                    break;
                }
                expect('{');
                if (automata.states >= MOST_PAIRS) {
                    refuse();
                }
                state = automata.addState(a);
                for (int k = 0; k < MOST_TEXT && isLetter(look()); k++) {
                    readEquation();
                }
                for (int k = 0; k < MOST_TEXT && (look() == '!' || look() == '?'); k++) {
                    readMove();
                }
                expect('}');
            }
            state = NONE;
            expect(';');
        }

        private void readMove() {
            if (automata.moves >= MOST_PAIRS) {
                refuse();
            }
            int m = automata.addMove(state, look() == '!', parts.count);
            at++;
            inMove = true;
            automata.moveX[m] = readX();
            inMove = false;
            if (look() != '>' && look() != '~') {
                refuse();
            }
            automata.anew[m] = look() == '>';
            at++;
            if (!isDigit(look())) {
                refuse();
            }
            automata.target[m] = look() - '0';
            automata.targetPlace[m] = at;
            at++;
            expect(';');
        }

        private int addPart(int op, int begin, int place, int what) {
            if (parts.count >= MOST_TEXT) {
                refuse();
            }
            int part = parts.add(op, begin, place, what);
            parts.state[part] = state;
            parts.late[part] = delays > 0;
            return part;
        }

        /** A part of two or three others, which begins where the first one does. */
        private int join(int op, int place, int one, int two, int three) {
            int part = addPart(op, parts.begin[one], place, 0);
            parts.first[part] = one;
            parts.next[one] = two;
            parts.next[two] = three;
            return part;
        }

        private void deepen() {
            if (depth >= MOST_DEEP) {
                refuse();
            }
            depth++;
        }

        private int readX() {
            int first = readC();
            if (inMove || !atArrow()) {
                return first;
            }
            int place = at;
            deepen();
            at += 2;
            int second = readX();
            depth--;
            return join(ARROW, place, first, second, NONE);
        }

        private int readC() {
            int first = readRanked(0);
            if (look() != '?') {
                return first;
            }
            int place = at;
            deepen();
            at++;
            int second = readC();
            expect(':');
            int third = readC();
            depth--;
            return join(CHOOSE, place, first, second, third);
        }

        /** D, E, F, G and H: what stands between operators of that rank or of higher ones. */
        private int readRanked(int rank) {
            int left = sampled(readK());
            int highest = HIGHEST;
            for (int k = 0; k < MOST_TEXT; k++) {
                int op = operatorHere();
                int own = rankOf(op);
                if (op == NONE || own < rank || own > highest) {
                    break;
                }
                int place = at;
                at++;
                int right = readRanked(own + 1);
                left = join(op, place, left, right, NONE);
                highest = own == COMPARING ? COMPARING - 1 : own;
            }
            return left;
        }

        private int operatorHere() {
            switch (look()) {
                case '|': return OR;
                case '&': return AND;
                case '=': return EQUAL;
                case '#': return DIFFER;
                case '<': return LESS;
                case '>': return inMove && parens == 0 ? NONE : MORE;
                case '+': return ADD;
                case '-': return atArrow() ? NONE : TAKE;
                case '*': return TIMES;
                case '/': return DIVIDE;
                case '%': return REST;
                default: return NONE;
            }
        }

        private static int rankOf(int op) {
            switch (op) {
                case OR: return 0;
                case AND: return 1;
                case ADD: return 3;
                case TAKE: return 3;
                case TIMES: return HIGHEST;
                case DIVIDE: return HIGHEST;
                case REST: return HIGHEST;
                default: return COMPARING;
            }
        }

        /** J: that K, with all @ that stand behind it. */
        private int sampled(int inner) {
            int part = inner;
            for (int k = 0; k < MOST_TEXT && state == NONE && look() == '@'; k++) {
                at++;
                int code = takeClock();
                int whole = addPart(SAMPLE, parts.begin[part], at - 1, code);
                parts.first[whole] = part;
                part = whole;
            }
            return part;
        }

        private int readK() {
            int begin = at;
            char c = look();
            if (isLetter(c)) {
                return addPart(LETTER, begin, begin, takeLetter());
            }
            if (isDigit(c)) {
                return addPart(NUMBER, begin, begin, takeNumber());
            }
            if (isName(c)) {
                return readCall();
            }
            switch (c) {
                case '-': return readBehind(NEGATE);
                case '!': return readBehind(NOT);
                case '~': return readBehind(DELAY);
                case '(': return readWithin();
                case '[': return readMerge();
                case '\'':
                    at++;
                    return addPart(LAST, begin, begin + 1, takeLetter());
                default:
                    break;
            }
            if (c != 'T' && c != 'U') {
                refuse();
            }
            at++;
            return addPart(WORD, begin, begin, c == 'T' ? 1 : 0);
        }

        private int readBehind(int op) {
            int begin = at;
            if (atArrow() || (op == DELAY && inMove)) {
                refuse();
            }
            deepen();
            at++;
            if (op == DELAY) {
                delays++;
            }
            int one = readK();
            if (op == DELAY) {
                delays--;
            }
            depth--;
            int part = addPart(op, begin, begin, 0);
            parts.first[part] = one;
            return part;
        }

        /** The ( ) belong to the part within them: they only move its beginning. */
        private int readWithin() {
            int begin = at;
            deepen();
            at++;
            parens++;
            int part = readX();
            expect(')');
            parens--;
            depth--;
            parts.begin[part] = begin;
            return part;
        }

        private int readMerge() {
            int begin = at;
            if (state != NONE) {
                refuse();
            }
            deepen();
            at++;
            int slot = takeLetter();
            expect(',');
            int one = readX();
            expect(',');
            int two = readX();
            expect(']');
            depth--;
            int part = addPart(MERGE, begin, begin + 1, slot);
            parts.first[part] = one;
            parts.next[one] = two;
            return part;
        }

        private int readCall() {
            int begin = at;
            if (inMove) {
                refuse();
            }
            int callee = program.find(look(), reading);
            at++;
            if (look() != '(') {
                refuse();
            }
            deepen();
            at++;
            int first = NONE;
            int latest = NONE;
            for (int k = 0; k < MOST_TEXT && look() != ')'; k++) {
                if (k > 0) {
                    expect(',');
                }
                int one = readX();
                if (latest < 0) {
                    first = one;
                } else {
                    parts.next[latest] = one;
                }
                latest = one;
            }
            expect(')');
            depth--;
            int part = addPart(CALL, begin, begin, callee);
            parts.first[part] = first;
            if (look() == '^') {
                at++;
                parts.hatPlace[part] = at;
                parts.hat[part] = takeLetter();
            }
            return part;
        }
    }

    /** Looks for the FAULTS 2 to 6 of a Program that has been read. */
    private static final class Judge {
        private final Program program;
        private final Parts parts;
        private final Letters letters;
        private final Equations equations;
        private final Automata automata;
        /** The least place of a FAULT of the kind that is looked for; MOST_TEXT without. */
        int least = MOST_TEXT;

        Judge(Program program) {
            this.program = program;
            this.parts = program.parts;
            this.letters = program.letters;
            this.equations = program.equations;
            this.automata = program.automata;
        }

        /** The least kind of FAULT that there is, 0 without; twice: the least place of a letter told twice. */
        int judge(int twice) {
            least = twice;
            for (int kind = 2; kind <= 6; kind++) {
                for (int n = 0; n < program.nodes; n++) {
                    lookFor(kind, n);
                }
                if (least < MOST_TEXT) {
                    return kind;
                }
            }
            return 0;
        }

        private void lookFor(int kind, int n) {
            switch (kind) {
                case 2:
                    judgeHeads(n);
                    judgeNames(n);
                    judgeStates(n);
                    judgeTellings(n);
                    break;
                case 3:
                    judgeSorts(n);
                    break;
                case 4:
                    judgeRings(n);
                    judgeClocks(n);
                    judgeBases(n);
                    break;
                case 5:
                    findBare(n);
                    judgeBareParts(n);
                    judgeBareRest(n);
                    break;
                default:
                    judgeCycles(n);
                    break;
            }
        }

        private void blameIf(boolean wrong, int place) {
            if (wrong && place < least) {
                least = place;
            }
        }

        private boolean isTruth(int slot) {
            return letters.told[slot] != NONE && letters.sort[slot] == TRUTH;
        }

        private void judgeHeads(int n) {
            for (int e = program.equationFrom[n]; e < program.equationFrom[n + 1]; e++) {
                for (int h = equations.headFrom[e]; h < equations.headFrom[e + 1]; h++) {
                    judgeHead(equations.headLetter[h], equations.headPlace[h], equations.state[e]);
                }
            }
        }

        private void judgeHead(int slot, int place, int state) {
            int owner = state == NONE ? BODY : automata.owner[state];
            blameIf(letters.told[slot] == NONE || letters.role[slot] == INPUT, place);
            if (state != NONE) {
                automata.stateLetters[state] |= Letters.bit(slot);
            }
            if (letters.owner[slot] == NOBODY) {
                letters.owner[slot] = owner;
                letters.headPlace[slot] = place;
            } else {
                boolean otherState = owner >= 0 && owner == letters.owner[slot] && state != letters.ownerState[slot];
                blameIf(!otherState, place);
            }
            letters.ownerState[slot] = state;
        }

        private void judgeNames(int n) {
            blameIf(program.find(program.name[n], n) != NONE, program.place[n]);
            for (int part = program.partFrom[n]; part < program.partFrom[n + 1]; part++) {
                int what = parts.what[part];
                int place = parts.place[part];
                switch (parts.op[part]) {
                    case LETTER:
                        blameIf(letters.told[what] == NONE, place);
                        break;
                    case LAST:
                        blameIf(!letters.lasting[what], place);
                        break;
                    case SAMPLE:
                        blameIf(!isTruth(what >> 1), place);
                        break;
                    case MERGE:
                        blameIf(!isTruth(what), place);
                        break;
                    case CALL:
                        blameIf(what == NONE, place);
                        blameIf(parts.hat[part] != NONE && !isTruth(parts.hat[part]), parts.hatPlace[part]);
                        break;
                    default:
                        break;
                }
            }
        }

        private void judgeStates(int n) {
            for (int a = program.automatonFrom[n]; a < program.automatonFrom[n + 1]; a++) {
                int from = automata.stateFrom[a];
                for (int s = from; s < automata.stateFrom[a + 1]; s++) {
                    blameIf(automata.stateLetters[s] != automata.stateLetters[from], automata.dollar[a]);
                }
                for (int m = automata.moveFrom[a]; m < automata.moveFrom[a + 1]; m++) {
                    blameIf(automata.target[m] >= automata.stateFrom[a + 1] - from, automata.targetPlace[m]);
                }
            }
        }

        private void judgeTellings(int n) {
            for (int slot = n * LETTERS; slot < (n + 1) * LETTERS; slot++) {
                if (letters.told[slot] != NONE) {
                    blameIf(letters.role[slot] != INPUT && letters.owner[slot] == NOBODY, letters.told[slot]);
                    int clock = letters.clock[slot];
                    blameIf(clock >= 0 && !isTruth(clock >> 1), letters.clockPlace[slot]);
                }
            }
        }

        private void judgeSorts(int n) {
            for (int part = program.partFrom[n]; part < program.partFrom[n + 1]; part++) {
                parts.sort[part] = sortOf(part);
                judgePartSorts(part);
            }
            for (int e = program.equationFrom[n]; e < program.equationFrom[n + 1]; e++) {
                judgeEquationSorts(e);
            }
            for (int a = program.automatonFrom[n]; a < program.automatonFrom[n + 1]; a++) {
                for (int m = automata.moveFrom[a]; m < automata.moveFrom[a + 1]; m++) {
                    mustBe(automata.moveX[m], TRUTH);
                }
            }
        }

        /** What the part gives, whatever its own parts are. */
        private int sortOf(int part) {
            int first = parts.first[part];
            switch (parts.op[part]) {
                case LETTER: return letters.sort[parts.what[part]];
                case LAST: return letters.sort[parts.what[part]];
                case CALL:
                    return parts.isCall(part) ? letters.sort[program.outputLetter[parts.what[part] * LETTERS]] : INT;
                case CHOOSE: return parts.sort[parts.next[first]];
                case DELAY: return parts.sort[first];
                case ARROW: return parts.sort[first];
                case SAMPLE: return parts.sort[first];
                case MERGE: return parts.sort[first];
                case NUMBER: return INT;
                case NEGATE: return INT;
                case ADD: return INT;
                case TAKE: return INT;
                case TIMES: return INT;
                case DIVIDE: return INT;
                case REST: return INT;
                default: return TRUTH;
            }
        }

        private void mustBe(int part, int sort) {
            if (part >= 0) {
                blameIf(parts.sort[part] != sort, parts.begin[part]);
            }
        }

        private void judgePartSorts(int part) {
            int one = parts.first[part];
            int two = one < 0 ? NONE : parts.next[one];
            switch (parts.op[part]) {
                case NUMBER:
                case WORD:
                case LETTER:
                case LAST:
                case DELAY:
                case SAMPLE:
                    break;
                case CALL:
                    judgeCallSorts(part);
                    break;
                case EQUAL:
                case DIFFER:
                case ARROW:
                case MERGE:
                    mustBe(two, parts.sort[one]);
                    break;
                case CHOOSE:
                    mustBe(one, TRUTH);
                    mustBe(parts.next[two], parts.sort[two]);
                    break;
                case NOT:
                case AND:
                case OR:
                    mustBe(one, TRUTH);
                    mustBe(two, TRUTH);
                    break;
                default:
                    mustBe(one, INT);
                    mustBe(two, INT);
                    break;
            }
        }

        private void judgeCallSorts(int part) {
            if (!parts.isCall(part)) {
                return;
            }
            int callee = parts.what[part];
            int one = parts.first[part];
            int count = 0;
            for (int k = 0; k < MOST_TEXT && one >= 0; k++) {
                if (count < program.inputs[callee]) {
                    mustBe(one, letters.sort[program.inputLetter[callee * LETTERS + count]]);
                }
                count++;
                one = parts.next[one];
            }
            blameIf(count != program.inputs[callee], parts.begin[part]);
            int outputs = program.outputs[callee];
            blameIf(outputs != 1 && outputs != parts.heads[part], parts.begin[part]);
        }

        private void judgeEquationSorts(int e) {
            int x = equations.x[e];
            int from = equations.headFrom[e];
            int count = equations.headFrom[e + 1] - from;
            if (count == 1) {
                mustBe(x, letters.sort[equations.headLetter[from]]);
                return;
            }
            boolean fits = parts.isCall(x) && program.outputs[parts.what[x]] == count;
            blameIf(!fits, parts.begin[x]);
            for (int i = 0; fits && i < count && i < LETTERS; i++) {
                int given = letters.sort[program.outputLetter[parts.what[x] * LETTERS + i]];
                blameIf(given != letters.sort[equations.headLetter[from + i]], parts.begin[x]);
            }
        }

        private void judgeRings(int n) {
            for (int slot = n * LETTERS; slot < (n + 1) * LETTERS; slot++) {
                int clock = letters.clock[slot];
                for (int k = 0; k < LETTERS && clock >= 0; k++) {
                    blameIf(clock >> 1 == slot, letters.told[slot]);
                    clock = letters.clock[clock >> 1];
                }
            }
        }

        private void judgeClocks(int n) {
            for (int part = program.partFrom[n]; part < program.partFrom[n + 1]; part++) {
                parts.clock[part] = clockOf(part);
            }
            for (int e = program.equationFrom[n]; e < program.equationFrom[n + 1]; e++) {
                int clock = letters.clock[equations.headLetter[equations.headFrom[e]]];
                for (int h = equations.headFrom[e]; h < equations.headFrom[e + 1]; h++) {
                    blameIf(letters.clock[equations.headLetter[h]] != clock, equations.headPlace[h]);
                }
                mustBeOn(equations.x[e], clock);
            }
        }

        /** What the part is on, by its own parts alone; these are judged, too. */
        private int clockOf(int part) {
            int what = parts.what[part];
            int one = parts.first[part];
            switch (parts.op[part]) {
                case NUMBER: return FREE;
                case WORD: return FREE;
                case LETTER: return letters.clock[what];
                case LAST: return letters.clock[what];
                case SAMPLE:
                    mustBeOn(one, letters.clock[what >> 1]);
                    return what;
                case MERGE:
                    mustBeOn(one, 2 * what);
                    mustBeOn(parts.next[one], 2 * what + 1);
                    return letters.clock[what];
                case CALL: return clockOfCall(part);
                default: return commonClock(one);
            }
        }

        private void mustBeOn(int part, int clock) {
            blameIf(parts.clock[part] != FREE && parts.clock[part] != clock, parts.begin[part]);
        }

        /** What this part and those that follow it are on together. */
        private int commonClock(int from) {
            int clock = FREE;
            int one = from;
            for (int k = 0; k < MOST_TEXT && one >= 0; k++) {
                if (clock == FREE) {
                    clock = parts.clock[one];
                } else {
                    mustBeOn(one, clock);
                }
                one = parts.next[one];
            }
            return clock;
        }

        private int clockOfCall(int part) {
            int clock = commonClock(parts.first[part]);
            int hat = parts.hat[part];
            if (hat >= 0) {
                if (clock == FREE) {
                    return letters.clock[hat];
                }
                blameIf(letters.clock[hat] != clock, parts.hatPlace[part]);
            }
            return clock == FREE ? BASE : clock;
        }

        private void judgeBases(int n) {
            for (int part = program.partFrom[n]; part < program.partFrom[n + 1]; part++) {
                if (parts.state[part] != NONE) {
                    int op = parts.op[part];
                    boolean named = op == LETTER || op == LAST;
                    blameIf(named && letters.clock[parts.what[part]] != BASE, parts.place[part]);
                    int hat = parts.hat[part];
                    blameIf(hat >= 0 && letters.clock[hat] != BASE, parts.hatPlace[part]);
                }
            }
            for (int e = program.equationFrom[n]; e < program.equationFrom[n + 1]; e++) {
                for (int h = equations.headFrom[e]; h < equations.headFrom[e + 1] && equations.state[e] != NONE; h++) {
                    blameIf(letters.clock[equations.headLetter[h]] != BASE, equations.headPlace[h]);
                }
            }
        }

        /** Letters have first values until an EQUATION shows that they have none; 26 letters can change once each. */
        private void findBare(int n) {
            for (int round = 0; round <= LETTERS; round++) {
                for (int part = program.partFrom[n]; part < program.partFrom[n + 1]; part++) {
                    parts.bare[part] = isBare(part);
                }
                boolean changed = false;
                for (int e = program.equationFrom[n]; e < program.equationFrom[n + 1]; e++) {
                    for (int h = equations.headFrom[e]; h < equations.headFrom[e + 1]; h++) {
                        int slot = equations.headLetter[h];
                        if (parts.bare[equations.x[e]] && !letters.bare[slot]) {
                            letters.bare[slot] = true;
                            changed = true;
                        }
                    }
                }
                if (!changed) {
                    break;
                }
            }
        }

        private boolean isBare(int part) {
            int one = parts.first[part];
            switch (parts.op[part]) {
                case DELAY: return true;
                case CALL: return false;
                case ARROW: return parts.bare[one];
                default: break;
            }
            int slot = parts.ownLetter(part);
            boolean bare = slot >= 0 && letters.bare[slot];
            for (int k = 0; k < MOST_TEXT && one >= 0; k++) {
                bare = bare || parts.bare[one];
                one = parts.next[one];
            }
            return bare;
        }

        private void mustHave(int part) {
            blameIf(parts.bare[part], parts.begin[part]);
        }

        private void judgeBareParts(int n) {
            for (int part = program.partFrom[n]; part < program.partFrom[n + 1]; part++) {
                int one = parts.first[part];
                switch (parts.op[part]) {
                    case DELAY:
                    case ARROW:
                    case CHOOSE:
                        mustHave(one);
                        break;
                    case SAMPLE:
                    case MERGE:
                        blameIf(letters.bare[parts.ownLetter(part)], parts.place[part]);
                        break;
                    case CALL:
                        for (int k = 0; k < MOST_TEXT && one >= 0; k++) {
                            mustHave(one);
                            one = parts.next[one];
                        }
                        blameIf(parts.hat[part] >= 0 && letters.bare[parts.hat[part]], parts.hatPlace[part]);
                        break;
                    default:
                        break;
                }
            }
        }

        private void judgeBareRest(int n) {
            for (int a = program.automatonFrom[n]; a < program.automatonFrom[n + 1]; a++) {
                for (int m = automata.moveFrom[a]; m < automata.moveFrom[a + 1]; m++) {
                    mustHave(automata.moveX[m]);
                }
            }
            for (int e = program.equationFrom[n]; e < program.equationFrom[n + 1]; e++) {
                if (equations.state[e] != NONE) {
                    mustHave(equations.x[e]);
                }
            }
            for (int slot = n * LETTERS; slot < (n + 1) * LETTERS; slot++) {
                boolean must = letters.role[slot] == OUTPUT || letters.lasting[slot];
                blameIf(must && letters.bare[slot], letters.headPlace[slot]);
                int clock = letters.clock[slot];
                blameIf(clock >= 0 && letters.bare[clock >> 1], letters.clockPlace[slot]);
            }
        }

        /** The letters in these parts, but for those behind a ~. */
        private int lettersIn(int from, int to) {
            int mask = 0;
            for (int part = from; part <= to; part++) {
                int slot = parts.ownLetter(part);
                if (slot >= 0 && !parts.late[part]) {
                    mask |= Letters.bit(slot);
                }
            }
            return mask;
        }

        private void judgeCycles(int n) {
            findNeeds(n);
            int base = n * LETTERS;
            for (int by = 0; by < LETTERS; by++) {
                for (int k = 0; k < LETTERS; k++) {
                    if ((letters.hangs[base + k] & Letters.bit(by)) != 0) {
                        letters.hangs[base + k] |= letters.hangs[base + by];
                    }
                }
            }
            for (int slot = base; slot < base + LETTERS; slot++) {
                blameIf((letters.hangs[slot] & Letters.bit(slot)) != 0, letters.told[slot]);
            }
        }

        private void findNeeds(int n) {
            for (int a = program.automatonFrom[n]; a < program.automatonFrom[n + 1]; a++) {
                for (int m = automata.moveFrom[a]; m < automata.moveFrom[a + 1]; m++) {
                    if (automata.strong[m]) {
                        automata.needs[a] |= lettersIn(automata.movePartFrom[m], automata.moveX[m]);
                    }
                }
            }
            for (int e = program.equationFrom[n]; e < program.equationFrom[n + 1]; e++) {
                int state = equations.state[e];
                int needs = lettersIn(equations.partFrom[e], equations.x[e]);
                for (int h = equations.headFrom[e]; h < equations.headFrom[e + 1]; h++) {
                    int clock = letters.clock[equations.headLetter[h]];
                    needs |= clock < 0 ? 0 : Letters.bit(clock >> 1);
                }
                equations.needs[e] = needs;
                for (int h = equations.headFrom[e]; h < equations.headFrom[e + 1]; h++) {
                    int strong = state == NONE ? 0 : automata.needs[automata.owner[state]];
                    letters.hangs[equations.headLetter[h]] |= needs | strong;
                }
            }
        }
    }

    /** Gives a Program without FAULTS what running it needs: counts, where values are remembered, the steps. */
    private static final class Planner {
        private final Program program;
        private final Parts parts;
        private final Letters letters;
        private final Equations equations;
        private final Automata automata;
        private int steps;
        private int ready;

        Planner(Program program) {
            this.program = program;
            this.parts = program.parts;
            this.letters = program.letters;
            this.equations = program.equations;
            this.automata = program.automata;
        }

        void plan() {
            for (int n = 0; n < program.nodes; n++) {
                count(n);
                program.stepFrom[n] = steps;
                if (program.canMake(n)) {
                    layOut(n);
                    fillFirstMemory(n);
                    settleClocks(n);
                    schedule(n);
                }
                program.stepFrom[n + 1] = steps;
            }
        }

        private void count(int n) {
            int instances = 1;
            int values = program.automatonFrom[n + 1] - program.automatonFrom[n];
            for (int part = program.partFrom[n]; part < program.partFrom[n + 1]; part++) {
                values = Math.min(MOST_TOLD, values + valuesOf(part));
                if (parts.isCall(part)) {
                    instances = Math.min(MOST_TOLD, instances + program.instances[parts.what[part]]);
                }
            }
            for (int slot = n * LETTERS; slot < (n + 1) * LETTERS; slot++) {
                values = Math.min(MOST_TOLD, values + (letters.lasting[slot] ? 1 : 0));
            }
            program.instances[n] = instances;
            program.values[n] = values;
        }

        private int valuesOf(int part) {
            if (parts.isCall(part)) {
                return program.values[parts.what[part]];
            }
            return parts.op[part] == DELAY || parts.op[part] == ARROW ? 1 : 0;
        }

        /** The parts of a STATE follow one another, so what it remembers lies side by side. */
        private void layOut(int n) {
            int cell = 0;
            for (int part = program.partFrom[n]; part < program.partFrom[n + 1]; part++) {
                int values = valuesOf(part);
                int state = parts.state[part];
                parts.cell[part] = cell;
                if (state != NONE && values > 0) {
                    if (automata.cellTo[state] == automata.cellFrom[state]) {
                        automata.cellFrom[state] = cell;
                    }
                    automata.cellTo[state] = cell + values;
                }
                cell += values;
            }
            for (int a = program.automatonFrom[n]; a < program.automatonFrom[n + 1]; a++) {
                automata.cell[a] = cell;
                cell++;
            }
            for (int slot = n * LETTERS; slot < (n + 1) * LETTERS; slot++) {
                if (letters.lasting[slot]) {
                    letters.lastCell[slot] = cell;
                    cell++;
                }
            }
        }

        private void fillFirstMemory(int n) {
            int from = n * MOST_VALUES;
            for (int k = from; k < from + MOST_VALUES; k++) {
                program.firstMemory[k] = 0;
            }
            for (int part = program.partFrom[n]; part < program.partFrom[n + 1]; part++) {
                if (parts.isCall(part)) {
                    int callee = parts.what[part];
                    System.arraycopy(program.firstMemory, callee * MOST_VALUES,
                            program.firstMemory, from + parts.cell[part], program.values[callee]);
                }
            }
            for (int slot = n * LETTERS; slot < (n + 1) * LETTERS; slot++) {
                if (letters.lasting[slot]) {
                    program.firstMemory[from + letters.lastCell[slot]] = letters.last[slot];
                }
            }
        }

        /** FREE parts are on what they must be on; from without inwards, for that is told by what they are in. */
        private void settleClocks(int n) {
            for (int e = program.equationFrom[n]; e < program.equationFrom[n + 1]; e++) {
                settle(equations.x[e], letters.clock[equations.headLetter[equations.headFrom[e]]]);
            }
            for (int part = program.partFrom[n + 1] - 1; part >= program.partFrom[n]; part--) {
                int one = parts.first[part];
                int op = parts.op[part];
                for (int k = 0; k < MOST_TEXT && one >= 0; k++) {
                    if (op == SAMPLE) {
                        settle(one, letters.clock[parts.what[part] >> 1]);
                    } else if (op == MERGE) {
                        settle(one, 2 * parts.what[part] + (k == 0 ? 0 : 1));
                    } else {
                        settle(one, parts.clock[part]);
                    }
                    one = parts.next[one];
                }
            }
        }

        private void settle(int part, int clock) {
            if (parts.clock[part] == FREE) {
                parts.clock[part] = clock;
            }
        }

        private void addStep(int kind, int about) {
            if (steps < MOST_STEPS) {
                program.steps[steps] = kind << STEP_SHIFT | about;
                steps++;
            }
        }

        private void schedule(int n) {
            beginSchedule(n);
            int most = program.equationFrom[n + 1] - program.equationFrom[n]
                    + program.automatonFrom[n + 1] - program.automatonFrom[n];
            for (int round = 0; round <= most; round++) {
                boolean strongCame = scheduleStrong(n);
                boolean equationCame = scheduleEquations(n);
                if (!strongCame && !equationCame) {
                    break;
                }
            }
            scheduleEnd(n);
        }

        private void beginSchedule(int n) {
            ready = 0;
            for (int i = 0; i < program.inputs[n]; i++) {
                ready |= Letters.bit(program.inputLetter[n * LETTERS + i]);
            }
            for (int e = program.equationFrom[n]; e < program.equationFrom[n + 1]; e++) {
                for (int h = equations.headFrom[e]; h < equations.headFrom[e + 1]; h++) {
                    letters.pending[equations.headLetter[h]]++;
                }
            }
        }

        private boolean scheduleStrong(int n) {
            boolean came = false;
            for (int a = program.automatonFrom[n]; a < program.automatonFrom[n + 1]; a++) {
                if (!automata.done[a] && (automata.needs[a] & ~ready) == 0) {
                    scheduleMoves(a, true);
                    addStep(STRONG, a);
                    automata.done[a] = true;
                    came = true;
                }
            }
            return came;
        }

        private void scheduleMoves(int a, boolean strong) {
            for (int m = automata.moveFrom[a]; m < automata.moveFrom[a + 1]; m++) {
                for (int part = automata.movePartFrom[m]; part <= automata.moveX[m]; part++) {
                    if (automata.strong[m] == strong) {
                        addStep(WORK, part);
                    }
                }
            }
        }

        private boolean scheduleEquations(int n) {
            boolean came = false;
            for (int e = program.equationFrom[n]; e < program.equationFrom[n + 1]; e++) {
                int state = equations.state[e];
                boolean free = state == NONE || automata.done[automata.owner[state]];
                if (free && !equations.done[e] && (equations.needs[e] & ~ready) == 0) {
                    scheduleEquation(e);
                    came = true;
                }
            }
            return came;
        }

        private void scheduleEquation(int e) {
            for (int part = equations.partFrom[e]; part <= equations.x[e]; part++) {
                if (!parts.late[part]) {
                    addStep(WORK, part);
                }
            }
            addStep(ASSIGN, e);
            equations.done[e] = true;
            for (int h = equations.headFrom[e]; h < equations.headFrom[e + 1]; h++) {
                int slot = equations.headLetter[h];
                letters.pending[slot]--;
                if (letters.pending[slot] == 0) {
                    ready |= Letters.bit(slot);
                }
            }
        }

        /** What is behind a ~, weak transitions, and then, when nothing reads it any more, what is remembered. */
        private void scheduleEnd(int n) {
            for (int part = program.partFrom[n]; part < program.partFrom[n + 1]; part++) {
                if (parts.late[part]) {
                    addStep(WORK, part);
                }
            }
            for (int a = program.automatonFrom[n]; a < program.automatonFrom[n + 1]; a++) {
                scheduleMoves(a, false);
            }
            for (int part = program.partFrom[n]; part < program.partFrom[n + 1]; part++) {
                if (parts.op[part] == DELAY) {
                    addStep(KEEP, part);
                }
            }
            for (int slot = n * LETTERS; slot < (n + 1) * LETTERS; slot++) {
                if (letters.lasting[slot]) {
                    addStep(KEEP_LAST, slot);
                }
            }
            for (int a = program.automatonFrom[n]; a < program.automatonFrom[n + 1]; a++) {
                addStep(WEAK, a);
            }
        }
    }

    /** Goes ticks: on a copy of what is remembered, so that a tick that FAILS can be left behind. */
    private static final class Machine {
        private Program program;
        private Parts parts;
        private Letters letters;
        private Equations equations;
        private Automata automata;
        private final int[] value = new int[MOST_TEXT];
        final int[] letterValue = new int[SLOTS];
        final boolean[] letterOn = new boolean[SLOTS];
        /** The STATE (its number among all) in which each AUTOMATON is in this tick. */
        private final int[] now = new int[MOST_PAIRS];
        final int[] memory = new int[MOST_VALUES];
        /** The least place that FAILED in the tick; MOST_TEXT without. */
        int failed = MOST_TEXT;

        Machine(Program program) {
            this.program = program;
            this.parts = program.parts;
            this.letters = program.letters;
            this.equations = program.equations;
            this.automata = program.automata;
        }

        void load(Program other) {
            program = other;
            parts = other.parts;
            letters = other.letters;
            equations = other.equations;
            automata = other.automata;
        }

        private void feedOne(int n, int i, int v) {
            int slot = program.inputLetter[n * LETTERS + i];
            letterValue[slot] = v;
            letterOn[slot] = true;
        }

        /** A tick of a NODE that remembers what is in rows from there on; false if it FAILS. */
        boolean goes(int n, int[] inputs, int[] rows, int from) {
            System.arraycopy(rows, from, memory, 0, program.values[n]);
            for (int i = 0; i < program.inputs[n]; i++) {
                feedOne(n, i, inputs[i]);
            }
            failed = MOST_TEXT;
            go(n, 0);
            return failed == MOST_TEXT;
        }

        /** What the INSTANCE remembers lies from base on. */
        private void go(int n, int base) {
            for (int a = program.automatonFrom[n]; a < program.automatonFrom[n + 1]; a++) {
                now[a] = automata.stateFrom[a] + memory[base + automata.cell[a]];
            }
            for (int k = program.stepFrom[n]; k < program.stepFrom[n + 1]; k++) {
                int about = program.steps[k] & STEP_ABOUT;
                switch (program.steps[k] >> STEP_SHIFT) {
                    case WORK:
                        if (isOn(about)) {
                            value[about] = worth(about, n, base);
                        }
                        break;
                    case ASSIGN:
                        assign(about);
                        break;
                    case STRONG:
                        goOver(about, true, n, base);
                        break;
                    case KEEP:
                        if (isOn(about)) {
                            memory[base + parts.cell[about]] = value[parts.first[about]];
                        }
                        break;
                    case KEEP_LAST:
                        if (letterOn[about]) {
                            memory[base + letters.lastCell[about]] = letterValue[about];
                        }
                        break;
                    default:
                        goOver(about, false, n, base);
                        break;
                }
            }
        }

        private boolean isOn(int part) {
            int state = parts.state[part];
            if (state != NONE) {
                return now[automata.owner[state]] == state;
            }
            return isPresent(parts.clock[part]);
        }

        private boolean isPresent(int clock) {
            if (clock < 0) {
                return true;
            }
            return letterOn[clock >> 1] && letterValue[clock >> 1] == 1 - (clock & 1);
        }

        private int worth(int part, int n, int base) {
            int one = parts.first[part];
            int two = one < 0 ? NONE : parts.next[one];
            int a = one < 0 ? 0 : value[one];
            int b = two < 0 ? 0 : value[two];
            switch (parts.op[part]) {
                case NUMBER: return parts.what[part];
                case WORD: return parts.what[part];
                case LETTER: return letterValue[parts.what[part]];
                case LAST: return memory[base + letters.lastCell[parts.what[part]]];
                case DELAY: return memory[base + parts.cell[part]];
                case ARROW: return firstThenLater(base + parts.cell[part], a, b);
                case CHOOSE: return a != 0 ? b : value[parts.next[two]];
                case SAMPLE: return a;
                case MERGE: return letterValue[parts.what[part]] != 0 ? a : b;
                case CALL: return call(part, n, base + parts.cell[part]);
                case DIVIDE: return divide(a, b, parts.place[part]);
                case REST: return rest(a, b, parts.place[part]);
                default: return reckon(parts.op[part], a, b);
            }
        }

        private int firstThenLater(int cell, int first, int later) {
            boolean isFirst = memory[cell] == 0;
            memory[cell] = 1;
            return isFirst ? first : later;
        }

        private static int reckon(int op, int a, int b) {
            switch (op) {
                case NEGATE: return -a;
                case NOT: return 1 - a;
                case OR: return a | b;
                case AND: return a & b;
                case EQUAL: return a == b ? 1 : 0;
                case DIFFER: return a != b ? 1 : 0;
                case LESS: return a < b ? 1 : 0;
                case MORE: return a > b ? 1 : 0;
                case ADD: return a + b;
                case TAKE: return a - b;
                default: return a * b;
            }
        }

        private int divide(int a, int b, int place) {
            if (b == 0) {
                failed = Math.min(failed, place);
                return 0;
            }
            return b == -1 ? -a : a / b;
        }

        private int rest(int a, int b, int place) {
            if (b == 0) {
                failed = Math.min(failed, place);
                return 0;
            }
            return b == -1 ? 0 : a % b;
        }

        /** The INSTANCE's letters are left as they are: an EQUATION of several letters takes them at once. */
        private int call(int part, int n, int cell) {
            int callee = parts.what[part];
            if (callee < 0 || callee >= n) {
                return 0;
            }
            int one = parts.first[part];
            for (int i = 0; i < program.inputs[callee] && one >= 0; i++) {
                feedOne(callee, i, value[one]);
                one = parts.next[one];
            }
            int hat = parts.hat[part];
            if (hat >= 0 && letterValue[hat] == 1) {
                renew(callee, 0, program.values[callee], cell);
            }
            go(callee, cell);
            return letterValue[program.outputLetter[callee * LETTERS]];
        }

        private void renew(int n, int from, int to, int base) {
            System.arraycopy(program.firstMemory, n * MOST_VALUES + from, memory, base + from, to - from);
        }

        private void assign(int e) {
            int state = equations.state[e];
            if (state != NONE && now[automata.owner[state]] != state) {
                return;
            }
            int x = equations.x[e];
            int from = equations.headFrom[e];
            boolean isMany = equations.headFrom[e + 1] - from > 1 && parts.isCall(x);
            for (int h = from; h < equations.headFrom[e + 1]; h++) {
                int slot = equations.headLetter[h];
                int given = value[x];
                if (isMany) {
                    given = letterValue[program.outputLetter[parts.what[x] * LETTERS + (h - from)]];
                }
                letterOn[slot] = isPresent(letters.clock[slot]);
                letterValue[slot] = letterOn[slot] ? given : 0;
            }
        }

        /** The first transition out of the STATE that is 1, NONE without. */
        private int firstMove(int a, boolean strong) {
            for (int m = automata.moveFrom[a]; m < automata.moveFrom[a + 1]; m++) {
                boolean counts = automata.strong[m] == strong && automata.moveState[m] == now[a];
                if (counts && value[automata.moveX[m]] == 1) {
                    return m;
                }
            }
            return NONE;
        }

        /** A strong transition goes ahead of the EQUATIONS of this tick, a weak one ahead of the next tick. */
        private void goOver(int a, boolean strong, int n, int base) {
            int m = firstMove(a, strong);
            int next = m == NONE ? now[a] : automata.stateFrom[a] + automata.target[m];
            if (m != NONE && automata.anew[m]) {
                renew(n, automata.cellFrom[next], automata.cellTo[next], base);
            }
            if (strong) {
                now[a] = next;
            } else {
                memory[base + automata.cell[a]] = next - automata.stateFrom[a];
            }
        }
    }

    /** An INSTANCE that make() has made, or a row that waits for that. */
    private static final class Instance {
        int nodeNumber;
        int tickCount;
        /** There was a tick that did not FAIL; back() to the beginning leaves that so. */
        boolean ticked;
        final int[] inputs = new int[LETTERS];
        final int[] memory = new int[MOST_VALUES];
        final int[] letterValue = new int[LETTERS];
        final boolean[] letterOn = new boolean[LETTERS];
        private final int[] kept = new int[KEPT_PLACES * MOST_VALUES];
        private final int[] keptTicks = new int[KEPT_PLACES];

        void begin(Program program, int n) {
            nodeNumber = n;
            tickCount = 0;
            ticked = false;
            Arrays.fill(inputs, 0);
            System.arraycopy(program.firstMemory, n * MOST_VALUES, memory, 0, MOST_VALUES);
            Arrays.fill(keptTicks, NONE);
        }

        void takeOver(Machine machine, int values) {
            System.arraycopy(machine.memory, 0, memory, 0, values);
            for (int k = 0; k < LETTERS; k++) {
                int slot = nodeNumber * LETTERS + k;
                boolean told = machine.letters.told[slot] != NONE;
                letterOn[k] = told && machine.letterOn[slot];
                letterValue[k] = machine.letterValue[slot];
            }
            ticked = true;
            tickCount++;
        }

        void keep(int k) {
            System.arraycopy(memory, 0, kept, k * MOST_VALUES, MOST_VALUES);
            keptTicks[k] = tickCount;
        }

        boolean bringBack(int k) {
            if (keptTicks[k] == NONE) {
                return false;
            }
            System.arraycopy(kept, k * MOST_VALUES, memory, 0, MOST_VALUES);
            tickCount = keptTicks[k];
            return true;
        }
    }

    /** Looks through all MEMORIES of one NODE, or of two side by side, that can come. */
    private static final class Prover {
        private static final int TABLE = 1024;
        private static final int MOST_ROWS = MOST_MEMORIES * 2 * MOST_VALUES;

        boolean hasTold;
        int found;
        int pathLength;
        final int[] path = new int[MOST_MEMORIES];
        /** The MEMORIES found, one behind the other; made anew only if more are asked for, and at once twice as long. */
        private int[] rows = new int[0];
        private final int[] nextRow = new int[2 * MOST_VALUES];
        /** By which MEMORY and which INPUTS each one was found. */
        private final int[] from = new int[MOST_MEMORIES];
        private final int[] by = new int[MOST_MEMORIES];
        /** 1 and the number of a MEMORY, at or behind the place that its values give; 0 is empty. */
        private final int[] table = new int[TABLE];
        private final int[] outputs = new int[LETTERS];
        private final int[] bits = new int[MOST_PROVED_INPUTS];
        private Machine machine;
        private Program program;
        private int nodeNumber;
        private int other;
        private int proved;
        private int most;
        private int width;

        /** Without an other NODE the flow at slot wanted is what must be 1. */
        void begin(Machine with, int k, int otherNode, int wanted, int atMost) {
            machine = with;
            program = with.program;
            nodeNumber = k;
            other = otherNode;
            proved = wanted;
            most = atMost;
            width = program.values[k] + (other < 0 ? 0 : program.values[other]);
            if (rows.length < most * width) {
                rows = new int[Math.min(MOST_ROWS, Math.max(most * width, 2 * rows.length))];
            }
            Arrays.fill(table, 0);
            found = 0;
            pathLength = 0;
            hasTold = true;
        }

        int search() {
            if (machine == null || program == null) {
                return NONE;
            }
            takeFirstRow();
            int words = 1 << program.inputs[nodeNumber];
            for (int m = 0; m < found && m < MOST_MEMORIES; m++) {
                for (int word = 0; word < words; word++) {
                    for (int i = 0; i < MOST_PROVED_INPUTS; i++) {
                        bits[i] = word >> i & 1;
                    }
                    if (!holds(m)) {
                        tellPath(m, word);
                        return 0;
                    }
                    int spot = findSpot();
                    if (spot != NONE && found >= most) {
                        return 2;
                    }
                    if (spot != NONE) {
                        keepRow(spot, m, word);
                    }
                }
            }
            return 1;
        }

        private void takeFirstRow() {
            int values = program.values[nodeNumber];
            System.arraycopy(program.firstMemory, nodeNumber * MOST_VALUES, nextRow, 0, values);
            if (other >= 0) {
                System.arraycopy(program.firstMemory, other * MOST_VALUES, nextRow, values, width - values);
            }
            int spot = findSpot();
            if (spot != NONE) {
                keepRow(spot, NONE, 0);
            }
        }

        /** A tick from that MEMORY on is as it must be; what is remembered behind it is in nextRow then. */
        private boolean holds(int m) {
            int values = program.values[nodeNumber];
            boolean goes = machine.goes(nodeNumber, bits, rows, m * width);
            System.arraycopy(machine.memory, 0, nextRow, 0, values);
            if (other < 0) {
                return goes && machine.letterValue[proved] == 1;
            }
            takeOutputs();
            boolean otherGoes = machine.goes(other, bits, rows, m * width + values);
            System.arraycopy(machine.memory, 0, nextRow, values, width - values);
            if (goes && otherGoes) {
                return hasOutputs();
            }
            System.arraycopy(rows, m * width, nextRow, 0, width);
            return goes == otherGoes;
        }

        private void takeOutputs() {
            for (int i = 0; i < program.outputs[nodeNumber]; i++) {
                outputs[i] = machine.letterValue[program.outputLetter[nodeNumber * LETTERS + i]];
            }
        }

        private boolean hasOutputs() {
            for (int i = 0; i < program.outputs[other]; i++) {
                if (outputs[i] != machine.letterValue[program.outputLetter[other * LETTERS + i]]) {
                    return false;
                }
            }
            return true;
        }

        /** Where in the table nextRow is to be entered; NONE if it has been found already. */
        private int findSpot() {
            int spot = 17;
            for (int k = 0; k < width; k++) {
                spot = spot * 31 + nextRow[k];
            }
            spot = (spot ^ spot >>> 15) & TABLE - 1;
            for (int k = 0; k < TABLE && table[spot] != 0; k++) {
                if (isRow(table[spot] - 1)) {
                    return NONE;
                }
                spot = spot + 1 & TABLE - 1;
            }
            return spot;
        }

        private boolean isRow(int m) {
            for (int k = 0; k < width; k++) {
                if (rows[m * width + k] != nextRow[k]) {
                    return false;
                }
            }
            return true;
        }

        private void keepRow(int spot, int m, int word) {
            if (found >= MOST_MEMORIES) {
                return;
            }
            System.arraycopy(nextRow, 0, rows, found * width, width);
            from[found] = m;
            by[found] = word;
            found++;
            table[spot] = found;
        }

        private void tellPath(int m, int word) {
            int count = 1;
            for (int at = m; at > 0 && count < MOST_MEMORIES; at = from[at]) {
                count++;
            }
            pathLength = count;
            path[count - 1] = word;
            int at = m;
            for (int k = count - 2; k >= 0 && at > 0; k--) {
                path[k] = by[at];
                at = from[at];
            }
        }
    }
}
