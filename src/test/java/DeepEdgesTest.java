/**
 * "At most 20 deep: of - ! ~ ( [ and calls' ( those that are open, of ? and -> those whose later parts are still read."
 * Twenty may be open, one more can't stand (FAULT 1 at its place), and what is closed does not count.
 */
public final class DeepEdgesTest {
    private static final String HEAD = "B(xi)ui{u=x;}A(cb)yi{y=";

    public static void main(String[] args) {
        signs();
        delays();
        parentheses();
        merges();
        calls();
        choices();
        arrows();
        eachBehindOthers();
        eachAroundOthers();
        closed();
        notCounted();
        inAutomata();
        Due.end();
    }

    private static void signs() {
        Due.good("A()yi{y=" + "-".repeat(20) + "1;}");
        Due.bad(1, "A()yi{y=" + "-".repeat(20) + "`-1;}");
        Due.good("A()yb{y=" + "!".repeat(20) + "T;}");
        Due.bad(1, "A()yb{y=" + "!".repeat(20) + "`!T;}");
        Due due = Due.of("twenty signs", "A()yi,zi,wb{y=" + "-".repeat(20) + "5;z=" + "-".repeat(19) + "5;w="
                + "!".repeat(20) + "T;}");
        due.make(0, 0);
        due.goes(5);
        due.out(0, 1, -5);
        due.out(0, 2, 1);
    }

    /** Twenty stand, and are wrong only because all but the innermost one have no first value behind them. */
    private static void delays() {
        Due.bad(5, "A()yi|zi{y=1;z=~`" + "~".repeat(19) + "1;}");
        Due.bad(1, "A()yi|zi{y=1;z=" + "~".repeat(20) + "`~1;}");
        Due.good("A()yi{y=" + "1->~(".repeat(6) + "1->~1" + ")".repeat(6) + ";}");
        Due.bad(1, "A()yi{y=" + "1->~(".repeat(6) + "1->~`(1)" + ")".repeat(6) + ";}");
    }

    private static void parentheses() {
        Due.good("A()yi{y=" + "(".repeat(20) + "1" + ")".repeat(20) + ";}");
        Due.bad(1, "A()yi{y=" + "(".repeat(20) + "`(1" + ")".repeat(21) + ";}");
    }

    /** a is on the BASE, b on @a, c on @b ..: each merge but the outermost one is on the clock that it must be on. */
    private static String merges(int deep) {
        StringBuilder locals = new StringBuilder();
        StringBuilder body = new StringBuilder();
        StringBuilder open = new StringBuilder();
        for (int k = 0; k < deep; k++) {
            char letter = (char) ('a' + k);
            if (k > 0) {
                locals.append(k == 1 ? "|" : ",").append(letter).append("b@").append((char) (letter - 1));
                body.append(letter).append("=T;");
            }
            open.append(k == 20 ? "`[" : "[").append(letter).append(',');
        }
        return "A(ab)yi" + locals + "{" + body + "y=" + open + "7" + ",5]".repeat(deep) + ";}";
    }

    private static void merges() {
        Due due = Due.of("twenty merges", merges(20));
        due.make(0, 0);
        due.goes(1, 7);
        due.goes(0, 5);
        Due.bad(1, merges(21));
    }

    private static void calls() {
        Due due = Due.of("twenty calls", HEAD + "B(".repeat(20) + "7" + ")".repeat(20) + ";}");
        due.make(1, 0);
        due.goes(7);
        Due.bad(1, HEAD + "B(".repeat(20) + "B`(7)" + ")".repeat(20) + ";}");
        // also one without arguments
        Due.bad(1, HEAD + "B(".repeat(20) + "B`()" + ")".repeat(20) + ";}");
    }

    private static void choices() {
        // in the second part, and in the third
        Due.good("A(cb)yi{y=" + "c?".repeat(20) + "1" + ":2".repeat(20) + ";}");
        Due.bad(1, "A(cb)yi{y=" + "c?".repeat(20) + "c`?1" + ":2".repeat(21) + ";}");
        Due.good("A(cb)yi{y=" + "c?1:".repeat(20) + "2;}");
        Due.bad(1, "A(cb)yi{y=" + "c?1:".repeat(20) + "c`?1:2;}");
        Due.bad(1, "A(cb)yi{y=" + "c?1:".repeat(19) + "c?c`?1:2:3;}");
        Due.bad(1, "A(cb)yi{y=" + "c?".repeat(19) + "c?1:c`?1:2" + ":2".repeat(19) + ";}");
    }

    private static void arrows() {
        Due.good("A()yi{y=" + "1->".repeat(20) + "2;}");
        Due.bad(1, "A()yi{y=" + "1->".repeat(20) + "2`->3;}");
        Due due = Due.of("twenty arrows", "A()yi{y=" + "1->".repeat(20) + "2;}");
        due.node(0, 5, 20);
        due.make(0, 0);
        due.goes(1);
        due.goes(2);
    }

    /** With nineteen open each may be opened, with twenty none. */
    private static void eachBehindOthers() {
        String[] good = {"-1", "(1)", "[c,1,1]", "B(1)", "c?1:1", "1->1", "1->2+3", "1+B(1)"};
        for (String one : good) {
            Due.good(HEAD + "(".repeat(19) + one + ")".repeat(19) + ";}");
            Due.good(HEAD + "-(".repeat(9) + "(" + one + ")".repeat(10) + ";}");
            Due.good(HEAD + "B(".repeat(19) + one + ")".repeat(19) + ";}");
            Due.good(HEAD + "1->(".repeat(9) + "1->" + one.replace("1->", "") + ")".repeat(9) + ";}");
        }
        String[] bad = {"`-1", "`!T", "`~1", "`(1)", "`[c,1,1]", "B`(1)", "c`?1:1", "1`->1", "1+`-1", "1*B`(1)",
            "'y`->1"};
        for (String one : bad) {
            Due.bad(1, HEAD + "(".repeat(20) + one + ")".repeat(20) + ";}");
            Due.bad(1, HEAD + "-(".repeat(10) + one + ")".repeat(10) + ";}");
            Due.bad(1, HEAD + "B(".repeat(20) + one + ")".repeat(20) + ";}");
            Due.bad(1, HEAD + "1->(".repeat(10) + one + ")".repeat(10) + ";}");
            Due.bad(1, HEAD + "c?(1):(".repeat(10) + one + ")".repeat(10) + ";}");
        }
        Due.good("A()yb{y=" + "(".repeat(19) + "!T" + ")".repeat(19) + ";}");
        Due.good("A()yi|zi{y=1;z=" + "(".repeat(19) + "~1" + ")".repeat(19) + ";}");
    }

    /** With one of each kind open nineteen ( may be, and no twentieth one. */
    private static void eachAroundOthers() {
        String[] before = {"-", "(", "[c,", "B(", "c?", "c?1:", "1->", "[c,1,"};
        String[] behind = {"", ")", ",1]", ")", ":1", "", "", "]"};
        for (int k = 0; k < before.length; k++) {
            Due.good(HEAD + before[k] + "(".repeat(19) + "1" + ")".repeat(19) + behind[k] + ";}");
            Due.bad(1, HEAD + before[k] + "(".repeat(19) + "`(1" + ")".repeat(20) + behind[k] + ";}");
        }
        Due.good("A()yb{y=!" + "(".repeat(19) + "T" + ")".repeat(19) + ";}");
        Due.bad(1, "A()yb{y=!" + "(".repeat(19) + "`(T" + ")".repeat(20) + ";}");
        Due.good("A()yi|zi{y=1;z=~" + "(".repeat(19) + "1" + ")".repeat(19) + ";}");
        Due.bad(1, "A()yi|zi{y=1;z=~" + "(".repeat(19) + "`(1" + ")".repeat(20) + ";}");
    }

    private static void closed() {
        String full = "(".repeat(20) + "1" + ")".repeat(20);
        Due.good(HEAD + full + "+" + full + "*" + full + ";}");
        Due.good(HEAD + "-".repeat(20) + "1+" + "-".repeat(20) + "1;}");
        // what is ahead of ? and -> is no later part of them
        Due.good(HEAD + full + "->1;}");
        Due.good(HEAD + full + "=1?1:2;}");
        Due.good(HEAD + full + ";}C()yi{y=" + full + ";}");
        String nineteen = "(".repeat(19) + "1" + ")".repeat(19);
        Due.good(HEAD + "B(" + nineteen + ")+B(" + nineteen + ");}");
        Due.good(HEAD + "c?" + nineteen + ":" + nineteen + ";}");
        Due.good(HEAD + "(c?1:2)+".repeat(21) + "1;}");
        Due.good(HEAD + "(1->2)+".repeat(21) + "1;}");
        Due.good(HEAD + "[c,1,2]+".repeat(21) + "1;}");
        Due.good(HEAD + "B(1)+".repeat(21) + "1;}");
        Due.good("A()yi|zi{y=1;z=" + "~1+".repeat(21) + "1;}");
        Due.good("A()yb{y=" + "!T&".repeat(21) + "T;}");
        // one that was refused leaves nothing open for the next TEXT
        Due due = new Due("refused");
        due.faults(1, "A()yi{y=" + "(".repeat(20) + "`(");
        due.fits("A()yi{y=" + "(".repeat(20) + "1" + ")".repeat(20) + ";}");
    }

    /** A - between two, the ( of a NODE, an @ !, and the signs of transitions open nothing. */
    private static void notCounted() {
        Due.good("A()yi{y=1" + "-1".repeat(30) + ";}");
        Due.good("A(cb)yi|zi@!c{y=1;z=" + "(".repeat(20) + "1@!c" + ")".repeat(20) + ";}");
        Due.good("A(cb)yi{y=1;${!" + "!".repeat(20) + "c>0;?" + "!".repeat(20) + "c>0;};}");
        Due.good("A(cb)yi=1{y=" + "(".repeat(20) + "'y" + ")".repeat(20) + ";}");
    }

    private static void inAutomata() {
        Due.good("A(cb)yi{${y=" + "(".repeat(20) + "1" + ")".repeat(20) + ";};}");
        Due.bad(1, "A(cb)yi{${y=" + "(".repeat(20) + "`(1" + ")".repeat(21) + ";};}");
        Due.bad(1, "A(cb)yi{y=1;${!" + "!".repeat(20) + "`!c>0;};}");
        Due.bad(1, "A(cb)yi{y=1;${?" + "(".repeat(20) + "`(c>0;};}");
        Due.good("A(cb)yi{y=1;${?" + "c?c:".repeat(20) + "c>0;};}");
        Due.bad(1, "A(cb)yi{y=1;${?" + "c?c:".repeat(20) + "c`?c:c>0;};}");
    }
}
