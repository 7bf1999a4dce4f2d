/**
 * Promises 1 to 4 and 18, the words TEXT and MODULE, and FAULT 1: each sentence that names a boundary,
 * on both sides of it. Above each test stands what the document says.
 */
public final class TextEdgesTest {
    private static final String FITS = "A()yi{y=1;}";
    /** 700 characters. */
    private static final String FULL = "A()yi{y=" + "1+".repeat(344) + "12;}";

    public static void main(String[] args) {
        noModule();
        howManyBytes();
        whichBytes();
        theHighestFirst();
        atMost700();
        refusedChangesNothing();
        emptyInAnyCase();
        allElseStays();
        allInstancesAreGone();
        faultOfTheLatestText();
        placesOfFaults();
        totals();
        oneToEightNodes();
        names();
        flows();
        atLeastOneFlow();
        clocksOfFlows();
        lastsOfFlows();
        numbers();
        bodies();
        oneToSixStates();
        transitions();
        oneComparison();
        minusAndMore();
        whatAutomataLack();
        whatTransitionsLack();
        everyBeginning();
        everyPlace();
        Due.end();
    }

    /** "No MODULE, an empty TEXT." */
    private static void noModule() {
        Due due = new Due("no MODULE");
        due.total(0, 0);
        due.total(1, 0);
        due.total(2, 0);
        due.node(0, 0, -1);
        due.make(0, -1);
        due.module(Due.THROWS);
        due.node(0, 0, -1);
        due.fits(FITS);
        due.total(0, 1);
        due.node(0, 0, 'A');
        due.make(0, 0);
    }

    /** "The n (1 .. 8) lowest bytes .. false, changing nothing, for another n". */
    private static void howManyBytes() {
        Due due = new Due("n");
        long word = 0x4142434445464748L;
        int length = 0;
        for (int n = -3; n <= 12; n++) {
            boolean takes = n >= 1 && n <= 8;
            due.type(word, n, takes);
            length += takes ? n : 0;
            due.total(1, length);
        }
        due.type(word, Due.LEAST, false);
        due.type(word, Due.MOST, false);
        due.type(word, 256 + 1, false);
        due.type(word, Due.LEAST + 8, false);
        due.total(1, length);
    }

    /** "false, changing nothing, for .. a byte that is not 33 .. 126", wherever among the n ones it is. */
    private static void whichBytes() {
        int[] wrong = {0, 1, 9, 10, 31, 32, 127, 128, 129, 160, 161, 254, 255};
        int[] right = {33, 34, 64, 125, 126};
        for (int place = 0; place < 8; place++) {
            Due due = new Due("bytes");
            long word = 0x4141414141414141L & ~(255L << 8 * place);
            for (int c : wrong) {
                due.type(word | (long) c << 8 * place, 8, false);
            }
            due.type(word | 32L << 8 * place, place + 1, false);
            due.total(1, 0);
            // not one of the n lowest ones: it does not count
            if (place > 0) {
                due.type(word | 32L << 8 * place, place, true);
            }
            due.total(1, place);
            for (int k = 0; k < right.length; k++) {
                due.type(word | (long) right[k] << 8 * place, 8, true);
                due.total(1, place + 8 * (k + 1));
            }
        }
    }

    /** "The n lowest bytes of word, the highest first, go to the TEXT". */
    private static void theHighestFirst() {
        for (int n = 1; n <= 8; n++) {
            Due due = new Due("the highest first");
            for (int from = 0; from < FITS.length(); from += n) {
                int to = Math.min(FITS.length(), from + n);
                long word = 0x2020;
                for (int k = from; k < to; k++) {
                    word = word << 8 | FITS.charAt(k);
                }
                due.type(word, to - from, true);
                due.total(1, to);
            }
            due.module(1);
        }
    }

    /** "A TEXT is of at most 700 characters", "or if it would have more than 700". */
    private static void atMost700() {
        for (int n = 1; n <= 8; n++) {
            Due due = new Due("700");
            due.types("B".repeat(700 - n));
            due.total(1, 700 - n);
            for (int more = n + 1; more <= 8; more++) {
                due.type(0x4141414141414141L, more, false);
            }
            due.total(1, 700 - n);
            due.type(0x4141414141414141L, n, true);
            due.total(1, 700);
            for (int more = 1; more <= 8; more++) {
                due.type(0x4141414141414141L, more, false);
            }
            due.total(1, 700);
        }
        Due due = new Due("700 that fit");
        due.fits(FULL);
        due.make(0, 0);
        due.goes(356);
        due.types(FULL);
        due.type('B', 1, false);
        due.module(1);
        due.make(0, 0);
        due.goes(356);
    }

    /** "false, changing nothing": what is typed before and behind it is one TEXT. */
    private static void refusedChangesNothing() {
        Due due = new Due("changing nothing");
        due.types("A()yi");
        due.type(0x42434445464748L, 0, false);
        due.type(0x42434445464748L, 9, false);
        due.type(0x42434445460048L, 7, false);
        due.type(0x42434445464720L, 7, false);
        due.type(0x7F434445464748L, 7, false);
        due.types("{y=7;}");
        due.total(1, 11);
        due.module(1);
        due.make(0, 0);
        due.goes(7);
        due.types(FULL.substring(0, 698));
        due.type(0x3B7D31, 3, false);
        due.types(FULL.substring(698));
        due.module(1);
    }

    /** "The TEXT (which is empty then in any case)". */
    private static void emptyInAnyCase() {
        Due due = new Due("empty in any case");
        due.types(FITS);
        due.total(1, 11);
        due.module(1);
        due.total(1, 0);
        due.module(Due.THROWS);
        due.fault(0, 1);
        due.fault(1, 0);
        due.total(1, 0);
        due.faults(1, "A(`");
        due.faults(2, "A()`yi{}");
        due.faults(3, "A()yi{y=`T;}");
        due.faults(4, "A(cb)yi{y=`1@c;}");
        due.faults(5, "A()yi{`y=~1;}");
        due.faults(6, "A()`yi{y=y;}");
        due.fits(FITS);
        due.total(1, 0);
        due.types(FITS);
        due.types("B()yi{y=1;}");
        due.total(1, 22);
        due.module(2);
    }

    /** "IllegalArgumentException: it has a FAULT (all else stays)." */
    private static void allElseStays() {
        String[] faulty = {"A(`", "A()`yi{}", "A()yi{y=`T;}", "A(cb)yi{y=`1@c;}", "A()yi{`y=~1;}", "A()`yi{y=y;}",
            "A()yi{y=1;}B()yi{y=1;}C()yi{y=1;}D()yi{y=1;}E()yi{y=1;}F()yi{y=1;}G()yi{y=1;}H()yi{y=1;}`A"};
        int[] kinds = {1, 2, 3, 4, 5, 6, 1};
        Due due = Due.of("all else stays", "D(cb)yi=3|zb{y='y+1;z=U->~c;${?c~1;}{?c~0;};}E(ab)yb{y=a;}");
        due.make(0, 0);
        due.make(1, 1);
        due.goes(1, 4);
        due.save(0, 2, true);
        due.prove(1, 0, 1, 0);
        for (int k = 0; k < faulty.length; k++) {
            due.faults(kinds[k], faulty[k]);
            due.total(0, 2);
            due.total(2, 2);
            due.node(0, 0, 'D');
            due.counts(0, 1, 1, 1, 1, 4);
            due.node(1, 0, 'E');
            due.state(0, 0, (k + 1) % 2);
            due.ticks(0, k + 1);
            due.ticks(1, 0);
            due.out(0, 0, k + 4);
            due.flow(0, 'z', k == 0 ? 0 : 1);
            due.out(1, 0, Due.THROWS);
            due.run(-1, 1);
            due.run(0, 0);
            // INPUTS stay, too: c is still 1
            due.tick(0, 0);
        }
        due.back(0, 2, true);
        due.ticks(0, 1);
        due.tick(0, 0);
        due.out(0, 0, 5);
        due.make(1, 2);
    }

    /** "The TEXT .. is the MODULE from now on: how many NODES; all INSTANCES are gone." */
    private static void allInstancesAreGone() {
        Due due = Due.of("gone", FITS + "B(xi)yi=8{y='y+x;${}{};}");
        for (int k = 0; k < 8; k++) {
            due.make(k % 2, k);
        }
        due.put(1, 0, 5, true);
        due.tick(1, 0);
        due.save(1, 0, true);
        due.make(0, -1);
        due.fits("C(xi)yi=8{y='y+x;${}{};}");
        due.total(0, 1);
        due.total(2, 0);
        due.node(1, 0, -1);
        for (int k = 0; k < 8; k++) {
            due.put(k, 0, 1, false);
            due.tick(k, -1);
            due.out(k, 0, Due.THROWS);
            due.flow(k, 'y', Due.THROWS);
            due.state(k, 0, -1);
            due.ticks(k, -1);
            due.save(k, 0, false);
            due.back(k, 0, false);
        }
        due.make(0, 0);
        due.make(0, 1);
        due.tick(2, -1);
        due.ticks(1, 0);
        due.out(1, 0, Due.THROWS);
        due.back(1, 0, false);
        // the INPUT is 0 at first again
        due.tick(1, 0);
        due.out(1, 0, 8);
    }

    /** "what 0: its kind, 1: its place; both 0 without. NONE for another what." */
    private static void faultOfTheLatestText() {
        Due due = new Due("fault()");
        due.fault(0, 0);
        due.fault(1, 0);
        due.faults(2, "A()yi{y=`z;}");
        due.types("A()");
        due.fault(0, 2);
        due.fault(1, 8);
        for (int what : new int[] {-2, -1, 2, 3, Due.LEAST, Due.MOST}) {
            due.fault(what, -1);
        }
        due.types("yi{y=1;}");
        due.module(1);
        due.fault(0, 0);
        due.fault(1, 0);
        due.fault(2, -1);
        due.fault(-1, -1);
        due.module(Due.THROWS);
        due.fault(0, 1);
        due.fault(1, 0);
    }

    /** "the place of the first character that can't stand .. or the length": from 0 to 700. */
    private static void placesOfFaults() {
        Due.bad(1, "`a");
        Due.bad(1, "A`A");
        Due.bad(1, "`");
        Due.bad(1, FITS + "`a");
        Due.bad(1, FULL.substring(0, 698) + "1`}");
        Due.bad(1, FULL.substring(0, 699) + "`;");
        Due.bad(1, FULL.substring(0, 697) + "+12`");
        Due.bad(1, FULL.substring(0, 699) + "`");
        Due.bad(1, "A`" + "A".repeat(699));
        Due.good(FULL);
        Due.good(FULL.replace("+12;", "+1;"));
    }

    /** "What 0: NODES, 1: characters of the TEXT, 2: INSTANCES. NONE for another what." */
    private static void totals() {
        Due due = Due.of("total()", FITS);
        due.make(0, 0);
        due.types("A()");
        due.total(0, 1);
        due.total(1, 3);
        due.total(2, 1);
        for (int what : new int[] {-2, -1, 3, 4, Due.LEAST, Due.MOST}) {
            due.total(what, -1);
        }
    }

    /** "A MODULE: 1 to 8 NODES"; "a ninth NODE's NAME" can't stand. */
    private static void oneToEightNodes() {
        Due due = new Due("1 to 8");
        due.module(Due.THROWS);
        StringBuilder text = new StringBuilder();
        for (int nodes = 1; nodes <= 8; nodes++) {
            text.append((char) ('A' + nodes - 1)).append("()yi{y=").append(nodes).append(";}");
            due.fits(text.toString());
            due.total(0, nodes);
            due.node(nodes - 1, 0, 'A' + nodes - 1);
            due.node(nodes, 0, -1);
            due.make(nodes, -1);
            due.make(nodes - 1, 0);
            due.goes(nodes);
        }
        Due.bad(1, text + "`A()yi{y=1;}");
        Due.bad(1, text + "`A");
        Due.bad(1, text + "`I");
        Due.bad(1, text + "`x");
    }

    /** "its NAME (A .. H)". */
    private static void names() {
        for (char name = 33; name <= 126; name++) {
            String rest = "()yi{y=1;}";
            if (name >= 'A' && name <= 'H') {
                Due.good(name + rest);
                Due.of("a NAME", name + rest).node(0, 0, name);
            } else {
                new Due("a NAME").faultsAt(1, 0, name + rest);
            }
        }
        Due.good("H()yi{y=1;}A()yi{y=H();}");
        Due.bad(1, "H()yi{y=1;}A()yi{y=`I();}");
        Due.bad(1, "H()yi{y=1;}A()yi{y=`@();}");
    }

    /** "A FLOW: a letter a .. z, a TYPE: i (an int) or b (a truth: 0, 1)". */
    private static void flows() {
        for (char c = 33; c <= 126; c++) {
            if (c >= 'a' && c <= 'z') {
                Due.good("A()" + c + "i{" + c + "=1;}");
                Due.good("A(" + c + "i)" + (c == 'y' ? "z" : "y") + "i{" + (c == 'y' ? "z=y" : "y=" + c) + ";}");
            } else {
                new Due("a letter").faultsAt(1, 3, "A()" + c + "i{y=1;}");
                new Due("a letter").faultsAt(1, 6, "A()yi|" + c + "i{y=1;}");
            }
            if (c == 'i' || c == 'b') {
                Due.good("A(x" + c + ")yi{y=1;}");
            } else {
                new Due("a TYPE").faultsAt(1, 4, "A()y" + c + "{y=1;}");
                new Due("a TYPE").faultsAt(1, 3, "A(x" + c + ")yi{y=1;}");
            }
        }
        // all 26 letters in one NODE; one more is one of them again
        StringBuilder all = new StringBuilder("A(ai,bb)ci|di");
        for (char c = 'e'; c <= 'z'; c++) {
            all.append(',').append(c).append('i');
        }
        StringBuilder body = new StringBuilder("{");
        for (char c = 'c'; c <= 'z'; c++) {
            body.append(c).append("=a;");
        }
        Due due = Due.of("all letters", all.toString() + body + "}");
        due.counts(0, 2, 1, 23, 1, 0);
        due.make(0, 0);
        due.goes(4, 1, 4);
        due.flow(0, 'a', 4);
        due.flow(0, 'b', 1);
        due.flow(0, 'z', 4);
        Due.bad(2, all + ",`ai" + body + "}");
        Due.bad(2, all + ",`zi" + body + "}");
    }

    /** "INPUTS: none or FLOWS with , between; OUTPUTS, LOCALS: FLOWS with , between, at least one." */
    private static void atLeastOneFlow() {
        Due.good("A()yi{y=1;}");
        Due.good("A(xi)yi{y=1;}");
        Due.good("A(xi,zb)yi{y=1;}");
        Due.bad(1, "A(`,xi)yi{y=1;}");
        Due.bad(1, "A(xi,`)yi{y=1;}");
        Due.bad(1, "A(xi`zb)yi{y=1;}");
        Due.bad(1, "A(xi,`,zb)yi{y=1;}");
        Due.bad(1, "A()`{y=1;}");
        Due.bad(1, "A()`|zi{z=1;}");
        Due.bad(1, "A()yi,`{y=1;}");
        Due.bad(1, "A()yi,`|zi{y=1;z=1;}");
        Due.bad(1, "A()yi|`{y=1;}");
        Due.bad(1, "A()yi|zi,`{y=1;z=1;}");
        Due.bad(1, "A()yi|zi`|wi{y=1;z=1;w=1;}");
        Due.good("A()yi|zi{y=1;z=1;}");
        Due.good("A()yi,wi|zi,xi{y=1;z=1;w=1;x=1;}");
    }

    /** "of LOCALS perhaps a CLOCK: @ and a letter, or @ ! and a letter". */
    private static void clocksOfFlows() {
        Due.good("A(cb)yi|zi@c{y=1;z=1;}");
        Due.good("A(cb)yi|zi@!c{y=1;z=1;}");
        Due.bad(1, "A(cb)yi|zi@`@c{y=1;z=1;}");
        Due.bad(1, "A(cb)yi|zi@!`!c{y=1;z=1;}");
        Due.bad(1, "A(cb)yi|zi`!c{y=1;z=1;}");
        Due.bad(1, "A(cb)yi|zi@c`@c{y=1;z=1;}");
        Due.bad(1, "A(cb)yi|zi@`{y=1;z=1;}");
        Due.bad(1, "A(cb)yi`@c{y=1;}");
        Due.bad(1, "A(cb,xi`@c)yi{y=1;}");
    }

    /** "of OUTPUTS and LOCALS perhaps = and a NUMBER". */
    private static void lastsOfFlows() {
        Due.good("A(cb)yi=1|zi=2{y=1;z=1;}");
        Due.good("A(cb)yi=1,wb=0|zi@c=2,xi@!c{y=1;z=1;w=T;x=1;}");
        Due.bad(1, "A(cb`=1)yi{y=1;}");
        Due.bad(1, "A(cb)yi|zi=2`@c{y=1;z=1;}");
        Due.bad(1, "A(cb)yi=1`=1{y=1;}");
        Due.bad(1, "A(cb)yi=`T{y=1;}");
        Due.bad(1, "A(cb)yi=`-1{y=1;}");
    }

    /** "NUMBER: 1 to 9 digits." */
    private static void numbers() {
        for (int digits = 1; digits <= 9; digits++) {
            Due due = Due.of("digits", "A()yi=" + "9".repeat(digits) + ",zi{y='y;z=" + "9".repeat(digits) + ";}");
            int nines = Integer.parseInt("9".repeat(digits));
            due.make(0, 0);
            due.goes(nines);
            due.out(0, 1, nines);
            Due.good("A()yi=" + "0".repeat(digits) + "{y=" + "0".repeat(digits) + ";}");
        }
        Due.bad(1, "A()yi=`{y=1;}");
        Due.bad(1, "A()yi{y=`;}");
        Due.bad(1, "A()yi=999999999`9{y=1;}");
        Due.bad(1, "A()yi{y=999999999`9;}");
        Due.bad(1, "A()yi=000000000`1{y=1;}");
        Due.bad(1, "A()yi{y=000000000`0;}");
        Due.bad(1, "A(cb)yi{y=1;${!c~0;?000000000`0=1>0;};}");
        Due due = Due.of("0 ahead", "A()yi=000000012{y='y+012;}");
        due.make(0, 0);
        due.goes(24);
    }

    /** "BODY: any number of EQUATIONS and AUTOMATA. EQUATION: letters with , between, = , an X, a ;". */
    private static void bodies() {
        Due.bad(2, "A()`yi{}");
        Due.good("A()yi{y=1;}");
        Due.good("A()yi{${y=1;};}");
        Due.good("A()yi{${};y=1;${};${};}");
        Due.good("A()yi,zi{${y=1;};z=1;${};}");
        Due.bad(1, "A()yi{y=1;`;}");
        Due.bad(1, "A()yi{`,y=1;}");
        Due.bad(1, "A()yi{y,`=1;}");
        Due.bad(1, "A()yi{y,z,`,y=1;}");
        Due.bad(1, "A()yi{y`y=1;}");
        Due.bad(1, "A()yi{y=1`}");
        Due.bad(1, "A()yi{${y=1;}`}");
        Due.bad(1, "A()yi{${y=1;};`;}");
    }

    /** "AUTOMATON: $, then 1 to 6 STATES (0, 1, ..), then ;"; "a seventh {" can't stand. */
    private static void oneToSixStates() {
        Due.bad(1, "A()yi{$`;}");
        for (int states = 1; states <= 6; states++) {
            Due.good("A()yi{$" + "{y=1;}".repeat(states) + ";}");
            // the last one can be gone to, one more can't
            Due.good("A(cb)yi{y=1;${!c>" + (states - 1) + ";}" + "{}".repeat(states - 1) + ";}");
            Due.bad(2, "A(cb)yi{y=1;${!c>`" + states + ";}" + "{}".repeat(states - 1) + ";}");
        }
        Due.bad(1, "A()yi{$" + "{y=1;}".repeat(6) + "`{y=1;};}");
        Due.bad(1, "A()yi{$" + "{y=1;}".repeat(6) + "`{");
        Due.good("A()yi{$" + "{y=1;}".repeat(6) + ";$" + "{}".repeat(6) + ";}");
        Due due = Due.of("six", "A()yi{${y=0;?T>1;}{y=1;?T>2;}{y=2;?T>3;}{y=3;?T>4;}{y=4;?T>5;}{y=5;?T>0;};}");
        due.make(0, 0);
        for (int k = 0; k < 7; k++) {
            due.state(0, 0, k % 6);
            due.goes(k % 6);
        }
    }

    /** "STATE: { any number of EQUATIONS, then any number of transitions }. A transition: .. a digit, a ;". */
    private static void transitions() {
        Due.good("A(cb)yi{y=1;${};}");
        Due.good("A(cb)yi{${y=1;};}");
        Due.good("A(cb)yi{y=1;${!c>0;?c~0;!c~0;?c>0;};}");
        Due.bad(1, "A(cb)yi{${!c>0;`y=1;};}");
        Due.bad(1, "A(cb)yi{${y=1;?c>0;`y=1;};}");
        Due.bad(1, "A(cb)yi{${y=1;`$};}");
        Due.bad(1, "A(cb)yi{${y=1;?`>0;};}");
        Due.bad(1, "A(cb)yi{${y=1;?c=`>0;};}");
        Due.bad(1, "A(cb)yi{${y=1;?c>`;};}");
        Due.bad(1, "A(cb)yi{${y=1;?c>`c;};}");
        Due.bad(1, "A(cb)yi{${y=1;?c>`>0;};}");
        Due.bad(1, "A(cb)yi{${y=1;?c~`~0;};}");
        Due.bad(1, "A(cb)yi{${y=1;?c>0`0;};}");
        Due.bad(1, "A(cb)yi{${y=1;?c>0`};}");
        Due.bad(2, "A(cb)yi{${y=1;?c>`9;};}");
    }

    /** "F: G, or G = G, G # G (not alike), G < G, G > G": no second one of these. */
    private static void oneComparison() {
        for (char one : "=#<>".toCharArray()) {
            Due.good("A(xi)yb{y=x" + one + "x;}");
            for (char two : "=#<>".toCharArray()) {
                Due.bad(1, "A(xi)yb{y=x" + one + "x`" + two + "x;}");
                Due.bad(1, "A(xi)yb{y=T&x" + one + "x+1`" + two + "x;}");
                Due.good("A(xi)yb{y=x" + one + "x&x" + two + "x|x" + one + "x;}");
                String within = two == '<' || two == '>' ? "x" + two + "x" : "T" + two + "U";
                Due.good("A(xi)yb{y=(" + within + ")#(x" + one + "x);}");
            }
        }
    }

    /** "- and > one behind the other are always -> ." and "of -> the -". */
    private static void minusAndMore() {
        Due.good("A(xi)yi{y=x->x;}");
        Due.good("A(xi)yi{y=x->-x;}");
        Due.good("A(xi)yi{y=x--x;}");
        Due.good("A(xi)yb{y=x>-x;}");
        Due.good("A(xi)yb{y=-x>x;}");
        Due.bad(1, "A(xi)yb{y=x-`->x;}");
        Due.bad(1, "A(xi)yb{y=-`->x;}");
        Due.bad(1, "A(xi)yb{y=`->x;}");
        Due.bad(1, "A(xi)yb{y=x->`->x;}");
        Due.bad(1, "A(xi)yb{y=x->`>x;}");
        Due.bad(1, "A(xi)yb{y=(x)`)->x;}");
        Due.bad(1, "A(xi)yb{y=x+`->x;}");
        Due.bad(1, "A(xi)yb{y=T?1`->x:x;}");
        Due.good("A(xi)yi{y=T?(1->x):x;}");
        Due.good("A(xi)yi{y=T?1:x->x;}");
    }

    /** "In AUTOMATA there is no @ and no [". */
    private static void whatAutomataLack() {
        Due.good("A(cb)yi|zi@c{z=1@c;y=[c,1,1];}");
        Due.bad(1, "A(cb)yi|zi@c{${z=1`@c;y=1;};}");
        Due.bad(1, "A(cb)yi{${y=`[c,1,1];};}");
        Due.bad(1, "A(cb)yi{${y=(1+`[c,1,1]);};}");
        Due.bad(1, "A(cb)yi{${y=1;}{y=1`@c;};}");
        Due.bad(1, "A(cb)yi{y=1;${!c`@c>0;};}");
        Due.bad(1, "A(cb)yi{y=1;${?`[c,T,T]>0;};}");
        Due.good("A(cb)yi|zi@c{${y=1;!c>0;};z=1@c;}");
        Due.good("A(cb)yi,zi{${y=1;?c~0;};z=[c,1,1];}");
        Due.good("A(cb)yi{${y=1->~y;};}");
        Due.good("B()zi{z=1;}A(cb)yi{${y=B()^c;};}");
    }

    /** "in a transition's X no ~ , -> or NAME, and, but within ( ) there, no >". */
    private static void whatTransitionsLack() {
        String before = "B()zb{z=T;}A(cb)yi{y=1;$";
        for (char kind : "!?".toCharArray()) {
            String from = before + "{" + kind;
            Due.bad(1, from + "`~c>0;};}");
            Due.bad(1, from + "(`~c)>0;};}");
            Due.bad(1, from + "!`~c>0;};}");
            Due.bad(1, from + "c`->c>0;};}");
            Due.bad(1, from + "(c`->c)>0;};}");
            Due.bad(1, from + "1=2`->0;};}");
            Due.bad(1, from + "`B()>0;};}");
            Due.bad(1, from + "(c&`B())>0;};}");
            Due.bad(1, from + "`C()>0;};}");
            Due.good(from + "(1>0)>0;};}");
            Due.good(from + "((1)>(0))~0;};}");
            Due.good(from + "c?c:(c?1>0:c)>0;};}");
            Due.bad(1, from + "1>0`>0;};}");
            Due.bad(1, from + "(1)>0`>0;};}");
            Due.bad(1, from + "(1>0)>`(0);};}");
            Due.bad(3, from + "`1>0;};}");
            Due.good(from + "c~0;};}");
        }
        // both may stand in the EQUATIONS of a STATE, and > is one that compares there
        Due.good("B()zb{z=T;}A(cb)yi,wb{${y=1->~y;w=1>2&B();!(1>2)>0;}{y=2->3;w=2>1;?c~0;};}");
    }

    /** "the first character that can't stand .. or the length": all that is left out is missed at the end. */
    private static void everyBeginning() {
        String text = "A(xi,cb)yi=12,wb|zi@!c=3,vb@c{y,w=(B(1,T)^c);z=~x@!c->[c,'z,-x];"
                + "${u=c?1:2;!c&!w|(1>2)>1;?1#2~0;}{};}";
        for (int length = 0; length < text.length(); length++) {
            new Due("a beginning").faultsAt(1, length, text.substring(0, length));
        }
        String two = "A()yi{y=1;}B()yi{y=A();}";
        for (int length = 0; length < two.length(); length++) {
            if (length == 11) {
                Due.good(two.substring(0, length));
            } else {
                new Due("a beginning").faultsAt(1, length, two.substring(0, length));
            }
        }
        Due.good(two);
    }

    /** A character that stands nowhere can't stand, wherever it is put in. */
    private static void everyPlace() {
        String text = "A(xi,cb)yi=12,wb|zi@!c=3,vb@c{y,w=(B(1,T)^c);z=~x@!c->[c,'z,-x];"
                + "${u=c?1:2;!c&!w|(1>2)>1;?1#2~0;}{};}";
        for (int at = 0; at <= text.length(); at++) {
            char never = "\"._\\`".charAt(at % 5);
            new Due("a place").faultsAt(1, at, text.substring(0, at) + never + text.substring(at));
        }
    }
}
