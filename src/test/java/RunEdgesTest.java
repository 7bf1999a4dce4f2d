/**
 * Promises 5 to 14, and WHAT IT REMEMBERS: each sentence that names a boundary,
 * on both sides of it. Above each test stands what the document says.
 */
public final class RunEdgesTest {
    private static final int LEAST = Due.LEAST;
    private static final int MOST = Due.MOST;
    /** Numbers that are never those of an INSTANCE, a place, an INPUT .. */
    private static final int[] FAR = {LEAST, LEAST + 1, -256, -2, -1, 8, 9, 26, 256, 65536, MOST - 1, MOST};

    public static void main(String[] args) {
        noneSuch();
        valuesOneEach();
        instancesInAll();
        mostInstancesTold();
        mostValuesTold();
        eightMade();
        sixtyInstances();
        threeHundredValues();
        bothBoundsAtOnce();
        inputsFromNowOn();
        truthsOfInputs();
        placesThatFailed();
        outputs();
        letters();
        presentLetters();
        statesOfAutomata();
        ticksThatDidNotFail();
        fourPlaces();
        keptAnew();
        backFalse();
        backLeavesAnswers();
        backOfEachKind();
        Due.end();
    }

    /** "NONE if there is none such, or for another what." */
    private static void noneSuch() {
        Due due = Due.of("node()", "A(xi,cb)yi,zb|wi{y=x;z=c;w=1;}B()yi{y=1;}");
        for (int k = 0; k < 2; k++) {
            due.node(k, 0, 'A' + k);
            due.node(k, -1, -1);
            due.node(k, 6, -1);
        }
        due.counts(0, 2, 2, 1, 1, 0);
        due.counts(1, 0, 1, 0, 1, 0);
        for (int what = 0; what <= 5; what++) {
            due.node(2, what, -1);
            due.node(-1, what, -1);
        }
        for (int far : FAR) {
            due.node(far, 0, -1);
            due.node(0, far, -1);
            due.make(far, -1);
        }
        due.make(2, -1);
        due.make(1, 0);
        due.make(0, 1);
        due.total(2, 2);
    }

    private static void values(int want, String text) {
        Due due = Due.of("values", text);
        due.node(0, 5, want);
        due.node(0, 4, 1);
    }

    /** "how many values it remembers in all (a ~, a ->, a LAST, an AUTOMATON: one each)". */
    private static void valuesOneEach() {
        values(0, "A(xi,cb)yi,wb{y=[c,-x@c,x@!c]+(c?1:2)*3;w=!c&x<2;}");
        values(1, "A()yi|zi{y=1;z=~1;}");
        values(2, "A()yi|zi{y=1;z=~1+~1;}");
        values(1, "A()yi{y=1->1;}");
        values(2, "A()yi{y=1->1->1;}");
        values(1, "A()yi=1{y=1;}");
        values(1, "A()yi=1{y='y+'y;}");
        values(2, "A()yi=1|zi=0{y=1;z=1;}");
        values(1, "A()yi{y=1;${};}");
        values(1, "A()yi{${y=1;!T>1;}{y=1;?U~0;}{y=1;};}");
        values(2, "A()yi{y=1;${};${}{};}");
        values(1 + 2 + 2, "A()yi{${y=1->~1;}{y=2->~2;};}");
        values(1 + 1 + 1 + 1, "A(cb)yi=1|zi@c{y=1->1;z=~1;${};}");
    }

    /** "how many INSTANCES one of it has in all, it too", and of values those of calls' INSTANCES, too. */
    private static void instancesInAll() {
        Due due = Due.of("in all", "A()yi=1{y=1->1;}B()yi{y=A();}C()yi{y=1->A()+B()+~A();}"
                + "D(cb)yi{${y=B()^c;}{y=C();};}E()yi{y=D(T);}F()yi,zi{y=1;z=1;}G()yi,zi{y,z=F();}H()yi{y=1;}");
        due.counts(0, 0, 1, 0, 1, 2);
        due.counts(1, 0, 1, 0, 2, 2);
        due.counts(2, 0, 1, 0, 1 + 1 + 2 + 1, 1 + 1 + 2 + 2 + 2);
        due.counts(3, 1, 1, 0, 1 + 2 + 5, 1 + 2 + 8);
        due.counts(4, 0, 1, 0, 9, 11);
        due.counts(5, 0, 2, 0, 1, 0);
        due.counts(6, 0, 2, 0, 2, 0);
        due.counts(7, 0, 1, 0, 1, 0);
    }

    private static String calls(String call, int times) {
        return (call + "+").repeat(times - 1) + call;
    }

    /** Six NODES: A, and B to F with ten calls each of the one ahead. */
    private static String sixNodes(String first) {
        StringBuilder text = new StringBuilder(first);
        for (char name = 'B'; name <= 'F'; name++) {
            text.append(name).append("()yi{y=").append(calls((char) (name - 1) + "()", 10)).append(";}");
        }
        return text.toString();
    }

    /** "of both 1000000, if it is more": INSTANCES. */
    private static void mostInstancesTold() {
        String six = sixNodes("A()yi{y=1;}");
        Due due = Due.of("million", six + "G()yi{y=" + calls("F()", 9) + ";}H()yi{y=" + calls("F()", 8) + "+"
                + calls("E()", 10) + ";}");
        due.node(5, 4, 111111);
        due.node(6, 4, 1000000);
        due.node(7, 4, 999999);
        due.node(7, 5, 0);
        due = Due.of("million", six + "G()yi{y=" + calls("F()", 9) + "+A();}H()yi{y=" + calls("G()", 20) + ";}");
        due.node(6, 4, 1000000);
        due.node(7, 4, 1000000);
        due.make(6, -1);
        due.make(7, -1);
        due.prove(7, 0, 1, -1);
        due.alike(7, 7, 1, -1);
    }

    /** "of both 1000000, if it is more": values. */
    private static void mostValuesTold() {
        String six = sixNodes("A()yi{y=1->1;}");
        StringBuilder nines = new StringBuilder();
        for (char name = 'F'; name >= 'A'; name--) {
            nines.append(name == 'F' ? "" : "+").append(calls(name + "()", 9));
        }
        Due due = Due.of("million", six + "G()yi{y=" + calls("F()", 10) + ";}H()yi{y=" + nines + ";}");
        due.node(5, 5, 100000);
        due.node(6, 5, 1000000);
        due.node(7, 5, 999999);
        due = Due.of("million", six + "G()yi{y=1->" + calls("F()", 10) + ";}H()yi=0{y=" + calls("G()", 20) + ";}");
        due.node(6, 5, 1000000);
        due.node(7, 5, 1000000);
        due.make(6, -1);
        due.make(7, -1);
        due = Due.of("million", six + "G()yi=0{y=" + calls("F()", 10) + ";}H()yi{y=" + calls("F()", 10) + ";${};}");
        due.node(6, 5, 1000000);
        due.node(7, 5, 1000000);
    }

    /** "its number 0, 1, ... NONE if .. 8 were made". */
    private static void eightMade() {
        Due due = Due.of("eight", "A()yi{y=1;}B()yi{y=2;}");
        due.make(2, -1);
        for (int k = 0; k < 8; k++) {
            due.make(k % 2, k);
            due.total(2, k + 1);
            // one that is refused takes no number
            due.make(2, -1);
        }
        due.make(0, -1);
        due.make(1, -1);
        due.total(2, 8);
        for (int k = 0; k < 8; k++) {
            due.tick(k, 0);
            due.out(k, 0, 1 + k % 2);
        }
        due.tick(8, -1);
        due.fits("A()yi{y=1;}");
        due.make(0, 0);
    }

    /** "or it has more than 60 INSTANCES in all". */
    private static void sixtyInstances() {
        Due due = Due.of("sixty", "A()yi{y=1;}B()yi{y=" + calls("A()", 59) + ";}C()yi{y=" + calls("A()", 60) + ";}"
                + "D()yi{y=B();}E()yi{y=A()+A();}");
        due.node(1, 4, 60);
        due.node(2, 4, 61);
        due.node(3, 4, 61);
        due.make(2, -1);
        due.make(3, -1);
        due.make(1, 0);
        due.make(4, 1);
        due.goes(59);
        due.tick(1, 0);
        due.out(1, 0, 2);
        due.make(1, 2);
    }

    /** "or remembers more than 300 values". */
    private static void threeHundredValues() {
        Due due = Due.of("three hundred", "A()yi{y=1->" + calls("~1", 99) + ";}B()yi{y=A()+A()+A();}C()yi{y=B()->1;}"
                + "D()yi=0{y=B();}E()yi{y=B();${};}F()yi{y=B();}G()yi|zi{y=B();z=~1;}");
        due.node(0, 5, 100);
        int[] values = {100, 300, 301, 301, 301, 300, 301};
        for (int k = 0; k < 7; k++) {
            due.node(k, 5, values[k]);
        }
        due.make(2, -1);
        due.make(3, -1);
        due.make(4, -1);
        due.make(6, -1);
        due.make(1, 0);
        due.make(5, 1);
        due.goes(3);
        due.goes(297);
        due.tick(1, 0);
        due.out(1, 0, 3);
        // all 300 are kept and brought back
        due.save(1, 3, true);
        due.tick(1, 0);
        due.out(1, 0, 297);
        due.back(1, 3, true);
        due.tick(1, 0);
        due.out(1, 0, 297);
    }

    private static void bothBoundsAtOnce() {
        String five = "A()yi{y=1->2->3->4->5->6;}";
        Due due = Due.of("both", five + "B()yi{y=0->0->0->0->0->" + calls("A()", 59) + ";}");
        due.node(1, 4, 60);
        due.node(1, 5, 300);
        due.make(1, 0);
        due.goes(0);
        due.goes(59 * 6);
        due = Due.of("both", five + "B()yi{y=" + calls("A()", 60) + ";}C()yi{y=A()+1;}");
        due.node(1, 4, 61);
        due.node(1, 5, 300);
        due.make(1, -1);
        due.make(2, 0);
        due = Due.of("both", five + "B()yi{y=0->0->0->0->0->0->" + calls("A()", 59) + ";}");
        due.node(1, 4, 60);
        due.node(1, 5, 301);
        due.make(1, -1);
        due.make(0, 0);
    }

    /** "INPUT i of an INSTANCE is v from now on (0 at first ..): true; false if there is none such." */
    private static void inputsFromNowOn() {
        Due due = Due.of("put()", "A(xi,zi,cb)yi,wi,db{y=x;w=z;d=c;}B()yi{y=1;}");
        due.put(0, 0, 1, false);
        due.make(0, 0);
        due.make(1, 1);
        due.goes(0);
        due.out(0, 1, 0);
        due.out(0, 2, 0);
        for (int i = 0; i < 3; i++) {
            due.put(0, i, 5 + i, true);
            due.put(1, i, 5, false);
            due.put(2, i, 5, false);
        }
        due.put(0, 3, 9, false);
        for (int far : FAR) {
            due.put(0, far, 9, false);
            due.put(far, 0, 9, false);
        }
        // the latest tick was before them
        due.out(0, 0, 0);
        due.flow(0, 'x', 0);
        for (int k = 0; k < 3; k++) {
            due.tick(0, 0);
            due.out(0, 0, 5);
            due.out(0, 1, 6);
            due.out(0, 2, 1);
        }
        due.put(0, 0, MOST, true);
        due.put(0, 0, LEAST, true);
        due.put(0, 1, MOST, true);
        due.tick(0, 0);
        due.out(0, 0, LEAST);
        due.out(0, 1, MOST);
        due.out(0, 2, 1);
    }

    /** "of a b 1 for all but 0": INPUTS and LAST. */
    private static void truthsOfInputs() {
        Due due = Due.of("truths", "A(cb,xi)yi,db{y=c?1:0;d=c=(x=1);}");
        due.make(0, 0);
        for (int v : new int[] {1, -1, 2, 256, 65536, LEAST, MOST}) {
            due.goes(v, v, 1);
            due.flow(0, 'c', 1);
            due.flow(0, 'x', v);
            due.goes(0, v, 0);
            due.flow(0, 'c', 0);
        }
        String[] lasts = {"0", "000", "1", "2", "10", "256", "999999999"};
        int[] worth = {0, 0, 1, 1, 1, 1, 1};
        for (int k = 0; k < lasts.length; k++) {
            due = Due.of("lasts", "A()yb=" + lasts[k] + ",zi=" + lasts[k] + "{y='y;z='z;}");
            due.make(0, 0);
            due.goes(worth[k]);
            due.out(0, 1, Integer.parseInt(lasts[k]));
        }
    }

    /** "0, or 1 and the place that FAILED. NONE if there is none such." */
    private static void placesThatFailed() {
        String text = "A(xi)yi{y=1/x;}B(xi)yi{y=x%x;}C(xi)yi{y=A(x)+B(x);}D()yi{y=0;}";
        Due due = Due.of("tick()", text);
        for (int k = 0; k < 4; k++) {
            due.make(k, k);
        }
        due.tick(0, 1 + 11);
        due.tick(1, 1 + text.indexOf('%'));
        due.tick(2, 1 + 11);
        due.tick(3, 0);
        due.tick(4, -1);
        for (int far : FAR) {
            due.tick(far, -1);
        }
        due.put(0, 0, 1, true);
        due.put(1, 0, -1, true);
        due.tick(0, 0);
        due.tick(1, 0);
        // as far behind as a place can be: 696
        due = Due.of("far", "A()yi{y=" + "1+".repeat(343) + "12/0;}");
        due.make(0, 0);
        due.tick(0, 697);
        due = Due.of("far", "A()yi{y=" + "1+".repeat(343) + "12%2;}");
        due.make(0, 0);
        due.goes(343);
    }

    /** "in its latest tick that did not FAIL. NoSuchElementException: there is none such, or no such tick." */
    private static void outputs() {
        String text = "A(xi)yi,zi{y=6/x;z=x;}B()yi{y=1;}";
        Due due = Due.of("out()", text);
        due.out(0, 0, Due.THROWS);
        due.make(0, 0);
        due.out(0, 0, Due.THROWS);
        due.tick(0, 1 + text.indexOf('/'));
        due.out(0, 0, Due.THROWS);
        due.goes(2, 3);
        due.out(0, 1, 2);
        due.out(0, 2, Due.THROWS);
        for (int far : FAR) {
            due.out(0, far, Due.THROWS);
            due.out(far, 0, Due.THROWS);
        }
        due.put(0, 0, 0, true);
        due.out(0, 1, 2);
        due.tick(0, 1 + text.indexOf('/'));
        due.out(0, 0, 3);
        due.out(0, 1, 2);
        due.goes(-1, -6);
        due.make(1, 1);
        due.out(1, 0, Due.THROWS);
        due.tick(1, 0);
        due.out(1, 0, 1);
        due.out(1, 1, Due.THROWS);
    }

    /** "The value of a letter (the character: 97 ..)": those that its own NODE tells. */
    private static void letters() {
        Due due = Due.of("flow()", "B(ai)zi|mi{z=m;m=a;}A(bi)yi|ni{y=B(n);n=b+1;}C(ai)zi{z=a;}");
        due.make(1, 0);
        due.make(2, 1);
        due.flow(0, 'b', Due.THROWS);
        due.goes(4, 5);
        due.put(1, 0, 8, true);
        due.tick(1, 0);
        for (int letter = 90; letter <= 130; letter++) {
            boolean told = letter == 'b' || letter == 'n' || letter == 'y';
            due.flow(0, letter, !told ? Due.THROWS : letter == 'b' ? 4 : 5);
            due.flow(1, letter, letter == 97 || letter == 122 ? 8 : Due.THROWS);
        }
        for (int far : FAR) {
            due.flow(0, far, Due.THROWS);
            due.flow(far, 'y', Due.THROWS);
        }
        for (int k = 0; k < 26; k++) {
            due.flow(0, k, Due.THROWS);
            due.flow(0, 'a' + 256 + k, Due.THROWS);
        }
        due.flow(2, 'y', Due.THROWS);
    }

    /** "or it was not PRESENT"; "one on @ c, if c is PRESENT and 1 (@ ! c: 0)". */
    private static void presentLetters() {
        String text = "A(cb,db)yi|ui@c,vi@!c,eb@c,wi@e,xi@!e{u=1;v=2;e=d@c;w=3;x=4;y=1/(c|d?1:0);}";
        Due due = Due.of("PRESENT", text);
        due.make(0, 0);
        long no = Due.THROWS;
        long[][] rows = {{1, 1, 1, no, 1, 3, no}, {1, 0, 1, no, 0, no, 4}, {0, 1, no, 2, no, no, no}};
        for (long[] row : rows) {
            due.goes((int) row[0], (int) row[1], 1);
            for (int k = 0; k < 2; k++) {
                // a tick that FAILS leaves it so
                due.flow(0, 'c', row[0]);
                due.flow(0, 'u', row[2]);
                due.flow(0, 'v', row[3]);
                due.flow(0, 'e', row[4]);
                due.flow(0, 'w', row[5]);
                due.flow(0, 'x', row[6]);
                due.put(0, 0, 0, true);
                due.put(0, 1, 0, true);
                due.tick(0, 1 + text.indexOf('/'));
            }
        }
    }

    /** "the k-th AUTOMATON of the NODE of an INSTANCE .. (for the next tick). NONE if there is none such." */
    private static void statesOfAutomata() {
        Due due = Due.of("state()", "A(cb)yi{y=1;${?c~1;}{};${!c~1;}{};${?c~0;}{};}B(cb)yi{y=A(c);}"
                + "C(cb)yi{y=1;${?c~1;}{};}");
        due.state(0, 0, -1);
        due.make(0, 0);
        due.make(1, 1);
        due.make(2, 2);
        for (int k = 0; k < 3; k++) {
            due.state(0, k, 0);
            due.state(1, k, -1);
        }
        due.state(0, 3, -1);
        due.state(2, 0, 0);
        due.state(2, 1, -1);
        due.state(3, 0, -1);
        for (int far : FAR) {
            due.state(0, far, -1);
            due.state(far, 0, -1);
        }
        due.goes(0, 1);
        due.state(0, 0, 0);
        due.state(0, 1, 0);
        due.goes(1, 1);
        due.state(0, 0, 1);
        due.state(0, 1, 1);
        due.state(0, 2, 0);
        due.state(2, 0, 0);
    }

    /** "How many ticks of an INSTANCE did not FAIL; NONE if there is none such." */
    private static void ticksThatDidNotFail() {
        String text = "A(xi)yi{y=1%x;}";
        Due due = Due.of("ticks()", text);
        due.ticks(0, -1);
        due.make(0, 0);
        due.make(0, 1);
        due.ticks(0, 0);
        due.tick(0, 1 + text.indexOf('%'));
        due.ticks(0, 0);
        due.put(0, 0, 5, true);
        for (int k = 1; k <= 100; k++) {
            due.tick(0, 0);
            due.ticks(0, k);
        }
        due.put(0, 0, 0, true);
        due.tick(0, 1 + text.indexOf('%'));
        due.ticks(0, 100);
        due.ticks(1, 0);
        due.ticks(2, -1);
        for (int far : FAR) {
            due.ticks(far, -1);
        }
    }

    /** "is kept in place k (0 .. 3) of it .. true; false if there is none such". */
    private static void fourPlaces() {
        Due due = Due.of("four places", "A()yi{y=1->~y+1;}");
        due.save(0, 0, false);
        due.make(0, 0);
        for (int k = 0; k < 4; k++) {
            due.save(0, k, true);
            due.goes(k + 1);
        }
        due.save(0, 4, false);
        due.back(0, 4, false);
        for (int far : FAR) {
            due.save(0, far, false);
            due.save(far, 0, false);
            due.back(0, far, false);
            due.back(far, 0, false);
        }
        due.save(1, 0, false);
        due.ticks(0, 4);
        for (int k = 3; k >= 0; k--) {
            due.back(0, k, true);
            due.ticks(0, k);
            due.goes(k + 1);
            due.ticks(0, k + 1);
        }
    }

    /** A place that is kept in again holds the later one; being brought back empties none. */
    private static void keptAnew() {
        Due due = Due.of("kept anew", "A()yi{y=1->~y+1;}");
        due.make(0, 0);
        due.save(0, 1, true);
        due.goes(1);
        due.goes(2);
        due.save(0, 1, true);
        due.goes(3);
        for (int k = 0; k < 3; k++) {
            due.back(0, 1, true);
            due.ticks(0, 2);
            due.goes(3);
        }
        due.back(0, 0, false);
        due.back(0, 2, false);
        due.back(0, 3, false);
    }

    /** "true; false if nothing is": then all stays. */
    private static void backFalse() {
        Due due = Due.of("nothing kept", "A()yi{y=1->~y+1;}");
        due.back(0, 0, false);
        due.make(0, 0);
        due.make(0, 1);
        due.save(1, 2, true);
        due.goes(1);
        for (int k = 0; k < 4; k++) {
            due.back(0, k, false);
        }
        due.ticks(0, 1);
        due.goes(2);
        due.back(1, 1, false);
        due.back(1, 3, false);
        due.back(1, 2, true);
        due.back(2, 2, false);
        // gone with the INSTANCES of the MODULE
        due.fits("A()yi{y=1->~y+1;}");
        due.back(1, 2, false);
        due.make(0, 0);
        due.make(0, 1);
        due.back(1, 2, false);
    }

    /** "It remembers again what is kept there, and has had so many ticks (out() and flow() stay as they are)". */
    private static void backLeavesAnswers() {
        Due due = Due.of("answers stay", "A(cb)yi|zi@c{y=1->~y+1;z=y@c;}");
        due.make(0, 0);
        due.save(0, 0, true);
        due.back(0, 0, true);
        due.out(0, 0, Due.THROWS);
        due.goes(0, 1);
        due.save(0, 3, true);
        due.goes(1, 2);
        due.back(0, 3, true);
        due.out(0, 0, 2);
        due.flow(0, 'z', 2);
        due.flow(0, 'c', 1);
        due.ticks(0, 1);
        due.back(0, 0, true);
        // no tick is counted, but there was one
        due.ticks(0, 0);
        due.out(0, 0, 2);
        due.flow(0, 'z', 2);
        // the INPUT is still 1
        due.tick(0, 0);
        due.out(0, 0, 1);
        due.flow(0, 'z', 1);
    }

    /** "of each ~ .., of each -> .., of each flow with LAST .., of AUTOMATA .., of calls' INSTANCES all that". */
    private static void backOfEachKind() {
        Due due = Due.of("each kind", "B(xi)yi{y=0->~x;}"
                + "A(xi)yi,zi,wi=5,vi,ui{y=0->~x;z=1->2;w='w+x;${v=1->~v+1;?x=3>1;}{v=7->8;?x=2>0;};u=B(x);}");
        due.make(1, 0);
        due.node(1, 5, 2 + 1 + 1 + 1 + 2 + 1 + 2);
        int[][] ticks = {{1, 0, 1, 6, 1, 0}, {2, 1, 2, 8, 2, 1}, {3, 2, 2, 11, 3, 2}, {1, 3, 2, 12, 7, 3},
            {2, 1, 2, 14, 8, 1}, {3, 2, 2, 17, 1, 2}};
        for (int k = 0; k < 4; k++) {
            goes(due, ticks[k]);
            due.save(0, k, true);
        }
        goes(due, ticks[4]);
        goes(due, ticks[5]);
        for (int k = 3; k >= 0; k--) {
            due.back(0, k, true);
            due.state(0, 0, k >= 2 ? 1 : 0);
            for (int next = k + 1; next < 6; next++) {
                goes(due, ticks[next]);
            }
        }
    }

    private static void goes(Due due, int[] row) {
        due.goes(row[0], row[1]);
        for (int i = 1; i < 5; i++) {
            due.out(0, i, row[i + 1]);
        }
    }
}
