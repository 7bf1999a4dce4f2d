/**
 * Promise 8 with the words TICKS and AUTOMATA: each sentence that names a boundary, on both sides of it.
 * Above each test stands what the document says.
 */
public final class TickEdgesTest {
    private static final int LEAST = Due.LEAST;
    private static final int MOST = Due.MOST;
    private static final String COUNT = "B()ui=100{u='u+1;}";

    public static void main(String[] args) {
        whatBindsMore();
        intsWrap();
        towardsZero();
        leastByMinusOne();
        comparing();
        byZeroIsZero();
        byZeroOnAClock();
        bothOfChoices();
        byZeroInTransitions();
        transitionsWithThatZero();
        failingChangesNothing();
        firstTimes();
        lastTimesPresent();
        lastsOfAllTicks();
        mergesOfPresent();
        callsWhenOn();
        callsAnew();
        stateZeroAtFirst();
        firstOfSeveral();
        oneStrongOneWeak();
        strongAnewOrGoingOn();
        weakAnewOrGoingOn();
        anewBehindWhatIsKept();
        othersRemember();
        Due.end();
    }

    private static void worth(String sort, String x, int a, int b, int want) {
        Due due = Due.of(x, "A(ai,bi)y" + sort + "{y=" + x + ";}");
        due.make(0, 0);
        due.goes(a, b, want);
    }

    private static void fails(String x, int a, int b, char at) {
        String text = "A(ai,bi)yi{y=" + x + ";}";
        Due due = Due.of(x, text);
        due.make(0, 0);
        due.put(0, 0, a, true);
        due.put(0, 1, b, true);
        due.tick(0, 1 + text.indexOf(at));
        due.ticks(0, 0);
    }

    /** "D: E, then .. | E. E: F, then .. & F. F: G, or G = G .. G: H, then .. + H, - H. H: J, then .. * J, / J .." */
    private static void whatBindsMore() {
        String[] sums = {"+", "-"};
        String[] products = {"*", "/", "%"};
        for (String one : sums) {
            for (String two : products) {
                int product = two.equals("*") ? 21 : two.equals("/") ? 2 : 1;
                worth("i", "a" + one + "7" + two + "b", 50, 3, one.equals("+") ? 50 + product : 50 - product);
                worth("i", "7" + two + "b" + one + "a", 50, 3, one.equals("+") ? product + 50 : product - 50);
            }
        }
        worth("i", "a-b-1", 50, 3, 46);
        worth("i", "a-b+1", 50, 3, 48);
        worth("i", "a+b-1", 50, 3, 52);
        worth("i", "a/b/2", 50, 3, 8);
        worth("i", "a/b*2", 50, 3, 32);
        worth("i", "a*b%7", 50, 3, 3);
        worth("i", "a%b*7", 50, 3, 14);
        worth("i", "a%7%b", 51, 2, 0);
        worth("i", "-a*b+1", 50, 3, -149);
        worth("i", "-a-b", 50, 3, -53);
        worth("i", "1<2?a:b+100", 50, 3, 50);
        worth("i", "a<b?1:2->9", 50, 3, 2);
        worth("b", "a+b=b+a", 50, 3, 1);
        worth("b", "a-1#b*9", 50, 3, 1);
        worth("b", "!(a<b)", 50, 3, 1);
        worth("b", "T|T&U", 0, 0, 1);
        worth("b", "U&T|T", 0, 0, 1);
        worth("b", "U&(T|T)", 0, 0, 0);
        worth("b", "!U&U", 0, 0, 0);
        worth("b", "a=b|a=50", 50, 3, 1);
        worth("b", "a=b&a=50|T", 50, 3, 1);
        worth("b", "T&a<b|b<a", 50, 3, 1);
        worth("b", "T=U&U", 0, 0, 0);
        worth("b", "U#U|T", 0, 0, 1);
        worth("i", "T|U?a:b", 50, 3, 50);
        worth("i", "a=b?1:b=3?2:3", 50, 3, 2);
        worth("i", "T?U?1:2:3", 50, 3, 2);
    }

    /** "ints wrap". */
    private static void intsWrap() {
        worth("i", "a+b", MOST, 0, MOST);
        worth("i", "a+b", MOST, 1, LEAST);
        worth("i", "a+b", MOST, MOST, -2);
        worth("i", "a+b", LEAST, -1, MOST);
        worth("i", "a+b", LEAST, LEAST, 0);
        worth("i", "a-b", LEAST, 0, LEAST);
        worth("i", "a-b", LEAST, 1, MOST);
        worth("i", "a-b", 0, LEAST, LEAST);
        worth("i", "a-b", MOST, -1, LEAST);
        worth("i", "-a", MOST, 0, -MOST);
        worth("i", "-a", LEAST + 1, 0, MOST);
        worth("i", "-a", LEAST, 0, LEAST);
        worth("i", "a*b", 46341, 46340, 2147441940);
        worth("i", "a*b", 46341, 46341, -2147479015);
        worth("i", "a*b", LEAST, -1, LEAST);
        worth("i", "a*b", 65536, 65536, 0);
        worth("i", "999999999*a", 2, 0, 1999999998);
        worth("i", "999999999*a", 3, 0, -1294967299);
        // a sum that wraps in the course of ticks
        Due due = Due.of("a sum", "A(xi)yi=0{y='y+x;}");
        due.make(0, 0);
        due.goes(MOST, MOST);
        due.goes(1, LEAST);
        due.goes(-1, MOST);
    }

    /** "/ and % are towards 0". */
    private static void towardsZero() {
        worth("i", "a/b", 7, 2, 3);
        worth("i", "a/b", -7, 2, -3);
        worth("i", "a/b", 7, -2, -3);
        worth("i", "a/b", -7, -2, 3);
        worth("i", "a%b", 7, 2, 1);
        worth("i", "a%b", -7, 2, -1);
        worth("i", "a%b", 7, -2, 1);
        worth("i", "a%b", -7, -2, -1);
        worth("i", "a/b", 1, 2, 0);
        worth("i", "a/b", -1, 2, 0);
        worth("i", "a/b", 8, 2, 4);
        worth("i", "a%b", -8, 2, 0);
        worth("i", "a/b", LEAST, 1, LEAST);
        worth("i", "a/b", LEAST, LEAST, 1);
        worth("i", "a/b", MOST, LEAST, 0);
        worth("i", "a%b", MOST, LEAST, MOST);
        worth("i", "a%b", LEAST, MOST, -1);
    }

    /** "of the least int by -1: that int, 0". */
    private static void leastByMinusOne() {
        worth("i", "a/b", LEAST, -1, LEAST);
        worth("i", "a%b", LEAST, -1, 0);
        worth("i", "a/b", LEAST + 1, -1, MOST);
        worth("i", "a%b", LEAST + 1, -1, 0);
        worth("i", "a/b", MOST, -1, LEAST + 1);
        worth("i", "a%b", MOST, -1, 0);
        worth("i", "a/b", LEAST, -2, 1073741824);
        worth("i", "a%b", LEAST, -3, -2);
    }

    private static void comparing() {
        int[] numbers = {LEAST, LEAST + 1, -1, 0, 1, MOST - 1, MOST};
        Due due = Due.of("comparing", "A(ai,bi)yb,zb,wb,vb{y=a<b;z=a>b;w=a=b;v=a#b;}");
        due.make(0, 0);
        for (int a : numbers) {
            for (int b : numbers) {
                due.goes(a, b, a < b ? 1 : 0);
                due.out(0, 1, a > b ? 1 : 0);
                due.out(0, 2, a == b ? 1 : 0);
                due.out(0, 3, a == b ? 0 : 1);
            }
        }
    }

    /** "a / or % by 0 FAILS, and is 0 (all else is worked out with that ..)"; "the least place .. is told". */
    private static void byZeroIsZero() {
        worth("i", "a/b", 0, 1, 0);
        worth("i", "a%b", 0, -1, 0);
        fails("a/b", 5, 0, '/');
        fails("a%b", 5, 0, '%');
        fails("a/b", 0, 0, '/');
        fails("a%b", LEAST, 0, '%');
        // the inner one is 0, so the outer one FAILS, too, at the lesser place
        fails("1/(a%b)", 5, 0, '/');
        fails("1%(a/b)", 5, 0, '%');
        // the inner one and 1 is not 0
        fails("1/(a%b+1)", 5, 0, '%');
        fails("1%(a/b-1)", 5, 0, '/');
        fails("1/(a%b)", 5, 5, '/');
        worth("i", "1/(a%b)", 5, 2, 1);
        // by a flow that is 0 because its own EQUATION FAILED
        String text = "A(xi)yi,zi{z=2/y;y=4%x;}";
        Due due = Due.of("by a flow", text);
        due.make(0, 0);
        due.tick(0, 1 + text.indexOf('/'));
        due.put(0, 0, 4, true);
        due.tick(0, 1 + text.indexOf('/'));
        due.goes(3, 1);
        due.out(0, 1, 2);
    }

    /** "All parts that are on a clock are worked out in each tick in which it is so". */
    private static void byZeroOnAClock() {
        String text = "A(cb,xi)yi|zi@c{z=1/(x@c);y=0;}B(cb,xi)yi|zi@c{z=(1%x)@c;y=0;}C(cb,xi)yi{y=[c,1/(x@c),2];}";
        Due due = Due.of("on a clock", text);
        due.make(0, 0);
        due.goes(0, 0, 0);
        due.put(0, 0, 1, true);
        due.tick(0, 1 + text.indexOf('/'));
        due.goes(1, 1, 0);
        // 1 % x is on the BASE: also where c is 0
        due.make(1, 1);
        due.tick(1, 1 + text.indexOf('%'));
        due.put(1, 1, 1, true);
        due.tick(1, 0);
        due.make(2, 2);
        due.tick(2, 0);
        due.out(2, 0, 2);
        due.put(2, 0, 1, true);
        due.tick(2, 1 + text.lastIndexOf('/'));
        due.put(2, 0, 0, true);
        due.tick(2, 0);
    }

    /** "(both of ?, too)", and both of -> . */
    private static void bothOfChoices() {
        String text = "A(cb,xi)yi{y=c?1/x:2%x;}B(cb,xi)yi{y=c?1:2*x/x;}C(xi)yi{y=1->2/x;}D(xi)yi{y=3%x->1;}";
        Due due = Due.of("both", text);
        for (int k = 0; k < 4; k++) {
            due.make(k, k);
        }
        due.tick(0, 1 + text.indexOf('/'));
        due.put(0, 0, 1, true);
        due.tick(0, 1 + text.indexOf('/'));
        due.put(1, 0, 1, true);
        due.tick(1, 1 + text.indexOf("/x;}C"));
        due.tick(2, 1 + text.indexOf("/x;}D"));
        for (int k = 0; k < 3; k++) {
            due.put(k, 1, 1, k < 2);
        }
        due.put(2, 0, 2, true);
        due.put(3, 0, 2, true);
        for (int k = 0; k < 4; k++) {
            due.tick(k, 0);
            due.out(k, 0, 1);
        }
        due.put(3, 0, 0, true);
        due.tick(3, 1 + text.indexOf("%x->"));
    }

    /** "of the strong transitions of that STATE (all are worked out) .. of its weak transitions (likewise)". */
    private static void byZeroInTransitions() {
        for (char kind : "!?".toCharArray()) {
            String text = "A(xi)yi{${y=1;!T~0;" + kind + "T~0;" + kind + "1/x=9~0;}{y=2;" + kind + "1%x=1~0;};}";
            Due due = Due.of("in transitions", text);
            due.make(0, 0);
            // the second one is worked out though the first one is 1; those of the other STATE are not
            due.tick(0, 1 + text.indexOf('/'));
            due.goes(1, 1);
        }
        // the weak transitions are those of the STATE behind the strong one
        String text = "A(xi)yi{${y=1/x;!x=0>1;?2/x=5>0;}{y=2;!3/x=5>0;?(x>5)>0;};}";
        Due due = Due.of("behind the strong one", text);
        due.make(0, 0);
        due.goes(1, 1);
        due.goes(0, 2);
        due.tick(0, 1 + text.indexOf("/x=5>0;?(x"));
        due.goes(1, 2);
        due.goes(6, 2);
        due.state(0, 0, 0);
    }

    /** "(all else is worked out with that, transitions too)". */
    private static void transitionsWithThatZero() {
        // 2 / 0 is 0, so it is in STATE 0, where 1 / 0 FAILS at the lesser place
        String text = "A(xi)yi{${y=1/x;?T~1;}{y=2;!2/x=0>0;};}";
        Due due = Due.of("with that 0", text);
        due.make(0, 0);
        due.goes(1, 1);
        due.state(0, 0, 1);
        due.put(0, 0, 0, true);
        due.tick(0, 1 + text.indexOf("/x;"));
        due.state(0, 0, 1);
        // 2 / 0 is not 1: it stays in STATE 1
        text = "A(xi)yi{${y=1/x;?T~1;}{y=2;!2/x=1>0;};}";
        due = Due.of("with that 0", text);
        due.make(0, 0);
        due.goes(1, 1);
        due.put(0, 0, 0, true);
        due.tick(0, 1 + text.indexOf("/x=1"));
        due.state(0, 0, 1);
        // 2 / 2 is 1: it is in STATE 0
        due.goes(2, 0);
    }

    /** "A tick that FAILS changes nothing": no kind of what it remembers, and no answer. */
    private static void failingChangesNothing() {
        String text = "B(xi)ui{u=x->~u+x;}A(xi)yi,zi,wi=5,vi,ui,si{y=0->~x;z=1->2;w='w+1;"
                + "${v=1->~v+1;?x=0>1;}{v=7;};u=B(1);s=6/x;}";
        int place = text.indexOf('/');
        Due due = Due.of("changes nothing", text);
        due.make(1, 0);
        due.save(0, 2, true);
        due.tick(0, 1 + place);
        due.tick(0, 1 + place);
        due.out(0, 0, Due.THROWS);
        due.flow(0, 'y', Due.THROWS);
        int[][] rows = {{3, 0, 1, 6, 1, 1, 2}, {2, 3, 2, 7, 2, 2, 3}, {1, 2, 2, 8, 3, 3, 6}};
        for (int k = 0; k < 3; k++) {
            due.put(0, 0, rows[k][0], true);
            due.tick(0, 0);
            for (int again = 0; again < 2; again++) {
                for (int i = 0; i < 6; i++) {
                    due.out(0, i, rows[k][i + 1]);
                }
                due.flow(0, 'x', rows[k][0]);
                due.state(0, 0, 0);
                due.ticks(0, k + 1);
                due.put(0, 0, 0, true);
                due.tick(0, 1 + place);
            }
        }
        due.back(0, 2, true);
        due.ticks(0, 0);
        due.tick(0, 1 + place);
        due.goes(2, 0);
        due.out(0, 2, 6);
        due.out(0, 4, 1);
    }

    /** "X -> Y is X the first time, Y later"; ~ is 0 at first. */
    private static void firstTimes() {
        Due due = Due.of("first times", "A(cb,xi)yi,zi|wi@c{y=x->x*10;w=x@c->x@c*100;z=[c,w,0];}");
        due.make(0, 0);
        due.goes(0, 1, 1);
        due.out(0, 1, 0);
        due.goes(1, 2, 20);
        due.out(0, 1, 2);
        due.goes(0, 3, 30);
        due.out(0, 1, 0);
        due.goes(1, 4, 40);
        due.out(0, 1, 400);
        String text = "A(xi)yi{y=7->1/~x;}";
        due = Due.of("0 at first", text);
        due.make(0, 0);
        due.put(0, 0, 1, true);
        due.tick(0, 1 + text.indexOf('/'));
        text = "A(xi)yi{y=7->1/(~x+1);}";
        due = Due.of("0 at first", text);
        due.make(0, 0);
        due.goes(-1, 7);
        due.tick(0, 1 + text.indexOf('/'));
    }

    /** "~ X is what X was when it was PRESENT the last time". */
    private static void lastTimesPresent() {
        Due due = Due.of("the last time", "A(cb,xi)yi,wi|zi@c{z=0->~(x@c);w=0->~x;y=[c,z,0-1];}");
        due.make(0, 0);
        int[][] rows = {{0, 5, -1, 0}, {1, 6, 0, 5}, {0, 7, -1, 6}, {0, 8, -1, 7}, {1, 9, 6, 8}, {1, 4, 9, 9}};
        for (int[] row : rows) {
            due.goes(row[0], row[1], row[2]);
            due.out(0, 1, row[3]);
        }
    }

    /** "' x is what x was in the last tick in which it was PRESENT"; "' in an AUTOMATON goes by all ticks". */
    private static void lastsOfAllTicks() {
        Due due = Due.of("lasts", "A(cb,xi)yi|zi@c=50{z=x@c;y=[c,'z,0-1];}");
        due.make(0, 0);
        int[][] rows = {{0, 5, -1}, {1, 6, 50}, {0, 7, -1}, {1, 8, 6}, {1, 9, 8}};
        for (int[] row : rows) {
            due.goes(row);
        }
        due = Due.of("in automata", "A(cb,xi)yi,zi=9{z=x;${y='z;!c~1;}{y=0-'z;!!c~0;};}");
        due.make(0, 0);
        rows = new int[][] {{0, 1, 9}, {1, 2, -1}, {1, 3, -2}, {0, 4, 3}, {0, 5, 4}, {1, 6, -5}};
        for (int[] row : rows) {
            due.goes(row);
        }
    }

    /** "X @ c is X, where it is PRESENT; [ c , X , Y ] that of both which is PRESENT". */
    private static void mergesOfPresent() {
        Due due = Due.of("merges", "A(cb,xi)yi|zi@c,wi@!c{z=x@c;w=-x@!c;y=[c,z,w];}");
        due.make(0, 0);
        for (int x : new int[] {0, 1, -1, MOST, LEAST}) {
            due.goes(1, x, x);
            due.flow(0, 'z', x);
            due.flow(0, 'w', Due.THROWS);
            due.goes(0, x, -x);
            due.flow(0, 'z', Due.THROWS);
            due.flow(0, 'w', -x);
        }
    }

    /** "A call is an INSTANCE of its own, which goes a tick when it is on". */
    private static void callsWhenOn() {
        Due due = Due.of("when on", "B(xi)ui{u=1->~u+1;}A(cb)yi,wi|zi@c{z=B(1@c);w=B(1);y=[c,z,0];}");
        due.make(1, 0);
        int[][] rows = {{0, 0, 1}, {1, 1, 2}, {0, 0, 3}, {1, 2, 4}, {1, 3, 5}, {0, 0, 6}};
        for (int[] row : rows) {
            due.goes(row[0], row[1]);
            due.out(0, 1, row[2]);
        }
    }

    /** "^ c: if c is 1, it is as new ahead of that". */
    private static void callsAnew() {
        Due due = Due.of("anew", "B()ui=10,vi{u='u+1;v=1->~v+1;}C()ai,bi{a,b=B();}"
                + "A(cb,db)yi,zi,si,ti|pi@d,qi@d,eb@d{y,z=C()^c;s,t=C()^d;e=c@d;p,q=C()^e;}");
        due.make(2, 0);
        int[][] rows = {{1, 0, 11, 1}, {0, 0, 12, 2}, {0, 0, 13, 3}, {1, 0, 11, 4}, {1, 1, 11, 1}, {0, 1, 12, 1}};
        for (int[] row : rows) {
            due.goes(row[0], row[1], row[2]);
            due.out(0, 1, row[2] - 10);
            due.out(0, 2, row[3] + 10);
            due.out(0, 3, row[3]);
        }
        due.flow(0, 'q', 2);
        due.goes(1, 1, 11);
        due.flow(0, 'q', 1);
        due.goes(1, 0, 11);
        due.flow(0, 'q', Due.THROWS);
        due.goes(0, 1, 12);
        due.flow(0, 'q', 2);
        // each kind of what is remembered, as all that there is
        String[] kinds = {"B()ui{u=1->2;}", "B()ui=0{u='u+1;}", "B()ui{${u=1;?T>1;}{u=2;};}", "B()ui{u=1->1+~1;}"};
        for (String kind : kinds) {
            due = Due.of("anew", kind + "A(cb)yi{y=B()^c;}");
            due.make(1, 0);
            int[] inputs = {0, 0, 1, 0, 1, 1, 0};
            int[] outputs = {1, 2, 1, 2, 1, 1, 2};
            for (int k = 0; k < inputs.length; k++) {
                due.goes(inputs[k], outputs[k]);
            }
        }
    }

    /** "An AUTOMATON is in a STATE (0 at first)." */
    private static void stateZeroAtFirst() {
        Due due = Due.of("0 at first", "A(cb)yi{${y=10;}{y=20;}{y=30;};}B(cb)yi{${y=10;!c>2;}{y=20;}{y=30;};}");
        due.make(0, 0);
        due.state(0, 0, 0);
        due.goes(1, 10);
        due.state(0, 0, 0);
        due.make(1, 1);
        due.put(1, 0, 1, true);
        due.state(1, 0, 0);
        // a strong transition in the first tick already
        due.tick(1, 0);
        due.out(1, 0, 30);
        due.state(1, 0, 2);
    }

    /** "in the order told, the first one that is 1"; none of them: it stays. */
    private static void firstOfSeveral() {
        for (char kind : "!?".toCharArray()) {
            String moves = kind + "x=1~1;" + kind + "x<3~2;" + kind + "x=1~3;" + kind + "x<4~3;";
            Due due = Due.of("of several", "A(xi)yi{y=1;${" + moves + "}{}{}{};}");
            int[] states = {2, 1, 2, 3, 0, 0};
            for (int x = 0; x < 6; x++) {
                due.make(0, x);
                due.put(x, 0, x, true);
                due.tick(x, 0);
                due.state(x, 0, states[x]);
            }
        }
        // a weak one that is told ahead of a strong one does not go ahead of it
        Due due = Due.of("of both kinds", "A(cb)yi{${y=10;?c~2;!c~1;}{y=20;}{y=30;};}");
        due.make(0, 0);
        due.goes(1, 20);
        due.state(0, 0, 1);
    }

    /** At most one strong and one weak transition in a tick, the weak one "from the next tick on". */
    private static void oneStrongOneWeak() {
        Due due = Due.of("one of each", "A(cb)yi{${y=10;!c~1;?c~1;}{y=20;!c~2;?c~0;}{y=30;!c~0;?!c~0;};}");
        due.make(0, 0);
        due.goes(0, 10);
        due.state(0, 0, 0);
        due.goes(1, 20);
        due.state(0, 0, 0);
        due.goes(1, 20);
        due.state(0, 0, 0);
        due.goes(0, 10);
        due = Due.of("weak later", "A(cb)yi{${y=10;?c~1;}{y=20;?c~2;}{y=30;?c~0;};}");
        due.make(0, 0);
        for (int k = 0; k < 4; k++) {
            due.goes(1, 10 + 10 * (k % 3));
            due.state(0, 0, (k + 1) % 3);
            due.goes(0, 10 + 10 * ((k + 1) % 3));
            due.state(0, 0, (k + 1) % 3);
        }
    }

    private static void sequence(String text, int[] puts, int[] first, int[] second) {
        Due due = Due.of("states", text);
        due.make(1, 0);
        for (int k = 0; k < puts.length; k++) {
            due.goes(puts[k], first[k]);
            due.out(0, 1, second[k]);
        }
    }

    /** "it is in that STATE then (anew: what that STATE remembers is as new)". */
    private static void strongAnewOrGoingOn() {
        String states = "A(xi)yi,zi{${y=1->~y+1;z=B();!x=1M1;!x=2M0;}{y=1->~y+1;z=B();!x=1M0;!x=2M1;};}";
        int[] puts = {0, 0, 1, 0, 1, 0, 1, 2, 2, 0, 1};
        sequence(COUNT + states.replace('M', '~'), puts, new int[] {1, 2, 1, 2, 3, 4, 3, 4, 5, 6, 5},
                new int[] {101, 102, 101, 102, 103, 104, 103, 104, 105, 106, 105});
        sequence(COUNT + states.replace('M', '>'), puts, new int[] {1, 2, 1, 2, 1, 2, 1, 1, 1, 2, 1},
                new int[] {101, 102, 101, 102, 101, 102, 101, 101, 101, 102, 101});
    }

    /** "(anew: what that one remembers is as new at once, behind all that this tick keeps)". */
    private static void weakAnewOrGoingOn() {
        String states = "A(xi)yi,zi{${y=1->~y+1;z=B();?x=1M1;?x=2M0;}{y=1->~y+1;z=B();?x=1M0;?x=2M1;};}";
        int[] puts = {0, 1, 0, 1, 0, 2, 0, 2, 2, 0};
        sequence(COUNT + states.replace('M', '~'), puts, new int[] {1, 2, 1, 2, 3, 4, 5, 6, 7, 8},
                new int[] {101, 102, 101, 102, 103, 104, 105, 106, 107, 108});
        sequence(COUNT + states.replace('M', '>'), puts, new int[] {1, 2, 1, 2, 1, 2, 1, 2, 1, 1},
                new int[] {101, 102, 101, 102, 101, 102, 101, 102, 101, 101});
    }

    /** A ~ that keeps a value in the tick of a weak transition anew has 0 behind it; the LAST of a flow is kept. */
    private static void anewBehindWhatIsKept() {
        String text = "A(cb)yi=3{${y=5->7/(~y-5);?c>0;};}";
        Due due = Due.of("behind", "A(cb)yi=3{${y=5->~y+'y;?c>0;};}");
        due.make(0, 0);
        due.goes(0, 5);
        due.goes(1, 10);
        due.goes(0, 5);
        due.goes(0, 10);
        due.goes(0, 20);
        // ~ y is 0 again, so 7 / (0 - 5) does not FAIL in the tick in which -> has its first time
        due = Due.of("behind", text);
        due.make(0, 0);
        due.goes(1, 5);
        due.goes(0, 5);
        due.put(0, 0, 0, true);
        due.tick(0, 1 + text.indexOf('/'));
        due.state(0, 0, 0);
    }

    /** "The EQUATIONS of the STATE in which it is hold (others are not worked out, and remember)". */
    private static void othersRemember() {
        String text = "A(xi)yi{${y=x->~x;!x=9~1;}{y=100/x->~x*10;!x=8~0;};}";
        Due due = Due.of("others remember", text);
        due.make(0, 0);
        due.goes(0, 0);
        due.goes(5, 0);
        due.goes(0, 5);
        due.goes(9, 11);
        due.goes(4, 90);
        due.put(0, 0, 0, true);
        due.tick(0, 1 + text.indexOf('/'));
        due.goes(8, 0);
        due.goes(1, 8);
        due.goes(9, 40);
    }
}
