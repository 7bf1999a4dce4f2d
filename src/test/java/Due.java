import java.util.NoSuchElementException;

/** Calls on one TickHouse, with the answers that are due; every other answer is printed and counted. */
final class Due {
    /** Stands for an exception that is due. */
    static final long THROWS = Long.MIN_VALUE;
    static final int LEAST = Integer.MIN_VALUE;
    static final int MOST = Integer.MAX_VALUE;
    /** Nothing is promised of later calls, so that a test that goes on behind them tests nothing. */
    private static final int MOST_CALLS = 512;

    private static int wrong = 0;
    private static int checks = 0;

    final TickHouse house = new TickHouse();
    private final String title;
    private int calls = 0;

    Due(String title) {
        this.title = title;
    }

    /** A house with that MODULE, which must have no FAULT. */
    static Due of(String title, String text) {
        Due due = new Due(title);
        due.fits(text);
        return due;
    }

    /** A text that has that FAULT at the place of its mark `, on an object of its own. */
    static void bad(int kind, String marked) {
        new Due("FAULT " + kind).faults(kind, marked);
    }

    /** A text without FAULTS, on an object of its own. */
    static void good(String text) {
        of("no FAULT", text);
    }

    static void end() {
        System.out.println(checks + " answers looked at, " + wrong + " wrong");
        System.exit(wrong == 0 ? 0 : 1);
    }

    private void count(String call) {
        calls++;
        if (calls == MOST_CALLS + 1) {
            wrong++;
            System.out.println(title + ": " + call + " is more than " + MOST_CALLS + " calls of one object");
        }
    }

    void is(String call, long got, long want) {
        checks++;
        count(call);
        if (got != want) {
            wrong++;
            System.out.println(title + ": " + call + " answered " + word(got) + ", due is " + word(want));
        }
    }

    private static String word(long answer) {
        return answer == THROWS ? "an exception" : Long.toString(answer);
    }

    private void is(String call, boolean got, boolean want) {
        is(call, got ? 1 : 0, want ? 1 : 0);
    }

    /** As few calls of type() as there can be. */
    void types(String text) {
        for (int from = 0; from < text.length(); from += 8) {
            int to = Math.min(text.length(), from + 8);
            long word = 0;
            for (int k = from; k < to; k++) {
                word = word << 8 | text.charAt(k);
            }
            boolean took = house.type(word, to - from);
            is("type() of " + text, took, true);
        }
    }

    private long module() {
        try {
            return house.module();
        } catch (IllegalArgumentException e) {
            return THROWS;
        }
    }

    void module(long want) {
        is("module()", module(), want);
    }

    void fits(String text) {
        types(text);
        boolean threw = module() == THROWS;
        is("module() of " + text + " throws", threw, false);
        is("fault(0) of " + text, house.fault(0), 0);
        is("fault(1) of " + text, house.fault(1), 0);
    }

    /** The FAULT is at the place of the mark ` in the text, which is left out of it. */
    void faults(int kind, String marked) {
        int place = marked.indexOf('`');
        faultsAt(kind, place, marked.substring(0, place) + marked.substring(place + 1));
    }

    void faultsAt(int kind, int place, String text) {
        types(text);
        is("module() of " + text, module(), THROWS);
        is("fault(0) of " + text, house.fault(0), kind);
        is("fault(1) of " + text, house.fault(1), place);
        is("total(1) behind " + text, house.total(1), 0);
    }

    void type(long word, int n, boolean want) {
        is("type(" + word + ", " + n + ")", house.type(word, n), want);
    }

    void fault(int what, int want) {
        is("fault(" + what + ")", house.fault(what), want);
    }

    void node(int k, int what, int want) {
        is("node(" + k + ", " + what + ")", house.node(k, what), want);
    }

    /** What node() tells of a NODE, from its INPUTS on. */
    void counts(int k, int inputs, int outputs, int locals, int instances, int values) {
        node(k, 1, inputs);
        node(k, 2, outputs);
        node(k, 3, locals);
        node(k, 4, instances);
        node(k, 5, values);
    }

    void make(int k, int want) {
        is("make(" + k + ")", house.make(k), want);
    }

    void put(int instance, int i, int v, boolean want) {
        is("put(" + instance + ", " + i + ", " + v + ")", house.put(instance, i, v), want);
    }

    void tick(int instance, int want) {
        is("tick(" + instance + ")", house.tick(instance), want);
    }

    void out(int instance, int i, long want) {
        long got = THROWS;
        try {
            got = house.out(instance, i);
        } catch (NoSuchElementException e) {
            got = THROWS;
        }
        is("out(" + instance + ", " + i + ")", got, want);
    }

    void flow(int instance, int letter, long want) {
        long got = THROWS;
        try {
            got = house.flow(instance, letter);
        } catch (NoSuchElementException e) {
            got = THROWS;
        }
        is("flow(" + instance + ", " + (char) letter + ")", got, want);
    }

    void state(int instance, int k, int want) {
        is("state(" + instance + ", " + k + ")", house.state(instance, k), want);
    }

    void ticks(int instance, int want) {
        is("ticks(" + instance + ")", house.ticks(instance), want);
    }

    void save(int instance, int k, boolean want) {
        is("save(" + instance + ", " + k + ")", house.save(instance, k), want);
    }

    void back(int instance, int k, boolean want) {
        is("back(" + instance + ", " + k + ")", house.back(instance, k), want);
    }

    void prove(int k, int i, int most, int want) {
        is("prove(" + k + ", " + i + ", " + most + ")", house.prove(k, i, most), want);
    }

    void alike(int k, int other, int most, int want) {
        is("alike(" + k + ", " + other + ", " + most + ")", house.alike(k, other, most), want);
    }

    void run(int tick, int want) {
        is("run(" + tick + ")", house.run(tick), want);
    }

    void total(int what, int want) {
        is("total(" + what + ")", house.total(what), want);
    }

    /** Ticks of the first INSTANCE: its first INPUTS are put, and its first OUTPUT must be the last number. */
    void goes(int... inputsAndOutput) {
        int inputs = inputsAndOutput.length - 1;
        for (int i = 0; i < inputs; i++) {
            put(0, i, inputsAndOutput[i], true);
        }
        tick(0, 0);
        out(0, 0, inputsAndOutput[inputs]);
    }
}
