/**
 * Promises 15 to 17 and the word PROVING: each sentence that names a boundary, on both sides of it.
 * Above each test stands what the document says.
 */
public final class ProveEdgesTest {
    private static final int[] FAR = {Due.LEAST, -256, -2, -1, 8, 26, 256, 65536, Due.MOST};

    public static void main(String[] args) {
        mostMemories();
        asSoonAsOneMore();
        fewestInputs();
        whichOutputs();
        whichInputs();
        boundsOfMake();
        boundsOfAlike();
        allStays();
        lookedAtFirst();
        failingEndsIt();
        alikeOutputs();
        alikeInputs();
        alikeMost();
        alikeFailing();
        anewAtOnce();
        runs();
        noRun();
        latestRun();
        longestRun();
        Due.end();
    }

    /** NODE A has just that many MEMORIES: the first one, and 0 .. count - 2. */
    private static String counter(int count) {
        return "A()yb|ni{n=(0->~n+1)%" + (count - 1) + ";y=T;}";
    }

    /** "finding no more than most (1 .. 300) MEMORIES, the first one too .. or another most". */
    private static void mostMemories() {
        Due due = Due.of("most", "A()yb{y=T;}");
        for (int most : new int[] {Due.LEAST, -1, 0, 301, 302, 65537, Due.MOST}) {
            due.prove(0, 0, most, -1);
            due.alike(0, 0, most, -1);
        }
        due.run(-1, -1);
        for (int most : new int[] {1, 2, 299, 300}) {
            due.prove(0, 0, most, 1);
            due.run(-2, 1);
            due.alike(0, 0, most, 1);
            due.run(-2, 1);
        }
        for (int count : new int[] {2, 3, 10, 299, 300}) {
            due = Due.of("most", counter(count));
            due.prove(0, 0, count, 1);
            due.run(-2, count);
            due.prove(0, 0, count - 1, 2);
            due.run(-2, count - 1);
            due.prove(0, 0, 300, 1);
            due.run(-2, count);
            due.alike(0, 0, count, 1);
            due.run(-2, count);
            due.alike(0, 0, count - 1, 2);
            due.run(-2, count - 1);
        }
        due = Due.of("most", counter(301));
        due.prove(0, 0, 300, 2);
        due.run(-2, 300);
        due.alike(0, 0, 300, 2);
        due.run(-2, 300);
    }

    /** "2 as soon as one more would be found". */
    private static void asSoonAsOneMore() {
        // from the first MEMORY: INPUTS 0 give a new one, INPUTS 1 make y 0
        Due due = Due.of("as soon", "A(ab)yb=0{y=!a;}B(ab)yb=0{y=a;}C(ab)yb=0{y=!a&'y|(U->a);}");
        due.prove(0, 0, 1, 2);
        due.run(-1, 0);
        due.run(-2, 1);
        due.prove(0, 0, 2, 0);
        due.run(-1, 1);
        due.run(0, 1);
        due.run(-2, 2);
        // a tick in which y is 0 finds none: 0 comes ahead of 2
        due.prove(1, 0, 1, 0);
        due.run(-1, 1);
        due.run(0, 0);
        due.run(-2, 1);
        // the latest tick is looked at, though no more may be found
        due = Due.of("as soon", "A()yb|ni{n=0->~n+1;y=n<4;}");
        int[] told = {2, 2, 2, 2, 0, 0};
        for (int most = 1; most <= 6; most++) {
            due.prove(0, 0, most, told[most - 1]);
            due.run(-2, Math.min(most, 5));
            due.run(-1, most < 5 ? 0 : 5);
        }
    }

    /** "of a NODE whose INPUTS are b, 4 at most": none, and one to four. */
    private static void fewestInputs() {
        String[] inputs = {"", "ab", "ab,bb", "ab,bb,cb", "ab,bb,cb,db", "ab,bb,cb,db,eb"};
        String[] all = {"U", "a", "a&b", "a&b&c", "a&b&c&d", "a&b&c&d&e"};
        for (int k = 0; k <= 5; k++) {
            Due due = Due.of(k + " INPUTS", "A(" + inputs[k] + ")yb{y=T;}B(" + inputs[k] + ")yb{y=!(" + all[k] + ");}");
            due.prove(0, 0, 1, k < 5 ? 1 : -1);
            due.alike(0, 0, 1, k < 5 ? 1 : -1);
            due.prove(1, 0, 1, k == 5 ? -1 : k == 0 ? 1 : 0);
            due.run(0, k == 0 || k == 5 ? -1 : (1 << k) - 1);
            due.alike(0, 1, 1, k == 5 ? -1 : k == 0 ? 1 : 0);
            due.alike(1, 0, 1, k == 5 ? -1 : k == 0 ? 1 : 0);
        }
    }

    /** "NONE .. if there is no such NODE .. or OUTPUT, this is an i". */
    private static void whichOutputs() {
        Due due = Due.of("OUTPUTS", "A(ab)yb,zi,wb,ub|vb{y=T;z=1;w=a;u=!a;v=T;}B()yi{y=1;}");
        due.prove(0, 0, 9, 1);
        due.prove(0, 1, 9, -1);
        due.prove(0, 2, 9, 0);
        due.run(0, 0);
        due.prove(0, 3, 9, 0);
        due.run(0, 1);
        due.prove(0, 4, 9, -1);
        due.prove(1, 0, 9, -1);
        due.prove(1, 1, 9, -1);
        due.prove(2, 0, 9, -1);
        for (int far : FAR) {
            due.prove(0, far, 9, -1);
            due.prove(far, 0, 9, -1);
            due.alike(0, far, 9, -1);
            due.alike(far, 0, 9, -1);
        }
        due.alike(0, 2, 9, -1);
        due.alike(2, 0, 9, -1);
        due.run(0, 1);
        new Due("no MODULE").prove(0, 0, 9, -1);
        new Due("no MODULE").alike(0, 0, 9, -1);
    }

    /** "INPUTS are (an i), or are more than 4". */
    private static void whichInputs() {
        Due due = Due.of("INPUTS", "A(ab,bb,cb,db)yb{y=T;}B(ab,bb,cb,di)yb{y=T;}C(ai)yb{y=T;}D(ab,bb,cb,db,eb)yb{y=T;}"
                + "E(ai,bb)yb{y=T;}");
        due.prove(0, 0, 1, 1);
        due.alike(0, 0, 1, 1);
        for (int k = 1; k < 5; k++) {
            due.prove(k, 0, 1, -1);
            due.alike(k, k, 1, -1);
            due.alike(0, k, 1, -1);
            due.alike(k, 0, 1, -1);
        }
    }

    /** "no such NODE (by make()'s bounds, too)"; that 8 were made is no bound of the NODE. */
    private static void boundsOfMake() {
        String many = "(" + "A()&".repeat(57) + "A())";
        Due due = Due.of("60", "A()yb{y=T;}B()yb{y=A()&" + many + ";}C()yb{y=A()&A()&" + many + ";}");
        due.node(1, 4, 60);
        due.node(2, 4, 61);
        for (int k = 0; k < 8; k++) {
            due.make(1, k);
        }
        due.make(1, -1);
        due.prove(1, 0, 1, 1);
        due.prove(2, 0, 1, -1);
        due.alike(1, 1, 1, 1);
        due.alike(0, 1, 1, 1);
        due.alike(1, 2, 1, -1);
        due.alike(2, 1, 1, -1);
        due.alike(2, 2, 1, -1);
        String five = "A(ab)yb{y=T->T->T->T->T->T;}";
        due = Due.of("300", five + "B(ab)yb{y=" + "A(a)&".repeat(57) + "A(a)->T->T->T->T->T->T->T->T->T->T;}"
                + "C(ab)yb=1{y=B(a);}D(ab)yb{y=B(a);}");
        due.node(1, 4, 59);
        due.node(1, 5, 300);
        due.node(2, 4, 60);
        due.node(2, 5, 301);
        due.node(3, 5, 300);
        due.prove(1, 0, 9, 1);
        due.run(-2, 2);
        due.prove(2, 0, 9, -1);
        due.prove(3, 0, 9, 1);
        due.alike(1, 2, 9, -1);
        due.alike(2, 1, 9, -1);
        due.alike(2, 2, 9, -1);
        // 300 values each, side by side
        due.alike(1, 3, 9, 1);
        due.run(-2, 2);
        due.alike(3, 0, 9, 1);
    }

    /** The MEMORIES of two NODES with 300 values each, 300 of them. */
    private static void boundsOfAlike() {
        String wide = "A()yb{y=" + "(T->T)&".repeat(28) + "T;}B()yb{y=" + "A()&".repeat(9) + "A();}";
        Due due = Due.of("wide", wide + "C()yb|ni{n=(0->~n+1)%299;y=B()&(" + "T->".repeat(18) + "T);}"
                + "D()yb=1{y=C()|T;}");
        due.node(1, 5, 280);
        due.node(2, 5, 300);
        due.node(3, 5, 301);
        due.alike(2, 2, 300, 1);
        due.run(-2, 300);
        due.alike(2, 2, 299, 2);
        due.run(-2, 299);
        due.alike(2, 3, 300, -1);
        due.prove(2, 0, 300, 1);
        due.run(-2, 300);
    }

    /** "NONE (all stays)". */
    private static void allStays() {
        Due due = Due.of("all stays", "A(ab)yb,zi{y=!a|(T->~a);z=1;}B(ab)yb{y=T;}C(ai)yb{y=T;}");
        due.prove(0, 0, 9, 0);
        due.run(-1, 2);
        due.run(-2, 3);
        due.prove(0, 1, 9, -1);
        due.prove(0, 0, 0, -1);
        due.prove(0, 0, 301, -1);
        due.prove(2, 0, 9, -1);
        due.prove(3, 0, 9, -1);
        due.alike(0, 1, 9, -1);
        due.alike(0, 0, 0, -1);
        due.alike(1, 2, 9, -1);
        due.run(-1, 2);
        due.run(-2, 3);
        due.run(0, 0);
        due.run(1, 1);
        due.run(2, -1);
    }

    /** "those found first are looked at first, with all INPUTS (the first one the lowest bit), 0, 1, .." */
    private static void lookedAtFirst() {
        // y is 0 at INPUTS that are just k
        for (int k = 0; k < 16; k++) {
            StringBuilder x = new StringBuilder("!(");
            for (int i = 0; i < 4; i++) {
                x.append(i == 0 ? "" : "&").append((k >> i & 1) == 1 ? "" : "!").append("abcd".charAt(i));
            }
            Due due = Due.of("INPUTS " + k, "A(ab,bb,cb,db)yb{y=" + x + ");}B(ab,bb,cb,db)yb{y=T;}");
            due.prove(0, 0, 1, 0);
            due.run(-1, 1);
            due.run(0, k);
            due.run(1, -1);
            due.alike(0, 1, 1, 0);
            due.run(0, k);
        }
        // the least INPUTS of several
        Due due = Due.of("least INPUTS", "A(ab,bb)yb{y=!a;}B(ab,bb)yb{y=!b;}"
                + "C(ab,bb)yb|ni{n=0->~(n*4+(a?1:0)+(b?2:0));y=n<4;}");
        due.prove(0, 0, 1, 0);
        due.run(0, 1);
        due.prove(1, 0, 1, 0);
        due.run(0, 2);
        // n is 0, then what the INPUTS were: the first MEMORY with which it can be more is that of INPUTS 1, then 0
        due.prove(2, 0, 300, 0);
        due.run(-1, 3);
        due.run(0, 1);
        due.run(1, 0);
        due.run(2, 0);
    }

    /** "One tick in which the OUTPUT that is told (a b) is 0, or that FAILS, ends it". */
    private static void failingEndsIt() {
        Due due = Due.of("failing", "A(ab)yb,zb{y=T;z=1/(a?0:1)=1;}B(ab)yb{y=T;${?1%(a?0:1)=1~0;};}"
                + "C(ab)yb{y=T|1/(a?1:2)=1;}D()yb|ni{n=3->~n-1;y=6/n>0;}");
        due.prove(0, 0, 1, 0);
        due.run(-1, 1);
        due.run(0, 1);
        due.prove(0, 1, 1, 0);
        due.run(0, 1);
        due.prove(1, 0, 1, 0);
        due.run(0, 1);
        due.prove(2, 0, 1, 1);
        due.prove(3, 0, 9, 0);
        due.run(-1, 4);
        due.run(-2, 4);
    }

    /** "and the same OUTPUTS (types in order)". */
    private static void alikeOutputs() {
        Due due = Due.of("OUTPUTS", "A()yb,zi{y=T;z=1;}B()zb,yi{y=1;z=T;}C()zi,yb{y=T;z=1;}D()yb{y=T;}"
                + "E()yb,zi,wb{y=T;z=1;w=T;}F()yb,zb{y=T;z=T;}G()yb,zi{y=T;z=2;}");
        due.alike(0, 1, 1, 1);
        due.alike(0, 2, 1, -1);
        due.alike(0, 3, 1, -1);
        due.alike(3, 0, 1, -1);
        due.alike(0, 4, 1, -1);
        due.alike(4, 0, 1, -1);
        due.alike(0, 5, 1, -1);
        // the second one differs, and is an i
        due.alike(0, 6, 1, 0);
        due.run(-1, 1);
        due.run(0, 0);
        due.alike(6, 1, 1, 0);
    }

    /** "two NODES .. with as many INPUTS (b, 4 at most)". */
    private static void alikeInputs() {
        Due due = Due.of("INPUTS", "A()yb{y=T;}B(ab)yb{y=T;}C(zb)xb{x=z|!z;}D(ab,bb)yb{y=T;}E(ab,bb,cb,db)yb{y=T;}"
                + "F(db,cb,bb,ab)yb{y=T;}G(db,cb,bb,ab)yb{y=d;}H(ab,bb,cb,db)yb{y=a;}");
        for (int k = 0; k < 5; k++) {
            for (int other = 0; other < 5; other++) {
                boolean same = k == other || k + other == 3 && k > 0 && other > 0;
                due.alike(k, other, 1, same ? 1 : -1);
            }
        }
        due.alike(4, 5, 1, 1);
        // fed alike in the order of the INPUTS, whatever their letters are
        due.alike(6, 7, 1, 1);
        due.alike(4, 7, 1, 0);
        due.run(0, 0);
    }

    /** "MEMORIES are those of both, side by side." */
    private static void alikeMost() {
        Due due = Due.of("side by side", "A()yb|ni{n=(0->~n+1)%2;y=T;}B()yb|ni{n=(0->~n+1)%3;y=T;}C()yb{y=T;}");
        // 1 and 2 of one, 1 and 3 of the other one: 1 and 6 of both
        due.alike(0, 1, 7, 1);
        due.run(-2, 7);
        due.alike(0, 1, 6, 2);
        due.run(-2, 6);
        due.alike(1, 0, 7, 1);
        due.alike(0, 2, 3, 1);
        due.run(-2, 3);
        due.alike(2, 0, 2, 2);
        due.run(-2, 2);
        due.alike(2, 2, 1, 1);
        due.run(-2, 1);
    }

    /** "if one FAILS the other one does, too (both stay as they are then)". */
    private static void alikeFailing() {
        Due due = Due.of("failing", "A(ab)yi|ni=0{n='n+1;y=1/(a?0:1);}B(ab)yi|ni=0{n='n+1;y=1%(a?0:1)+1;}C(ab)yi{y=1;}"
                + "D(ab)yi=0{y=a?1/0:5;}E(ab)yi=0{y=('y+1)%2;}F(ab)yi=0{y=('y+1)%2+1/(a?0:1)-1;}");
        // D FAILS in each tick: the one MEMORY stays
        due.alike(3, 3, 1, 1);
        due.run(-2, 1);
        due.alike(2, 3, 1, 0);
        due.run(0, 0);
        due.alike(2, 1, 9, 0);
        due.run(-1, 1);
        due.run(0, 1);
        due.alike(0, 2, 9, 0);
        due.run(0, 1);
        // F, fed 1, FAILS: it stays 0 or 1, so no third MEMORY comes
        due.alike(5, 5, 2, 1);
        due.run(-2, 2);
        due.alike(4, 5, 2, 0);
        due.run(-1, 1);
        due.run(0, 1);
        due.alike(4, 5, 1, 2);
    }

    /** What a STATE remembers is as new at once, and so are the MEMORIES; going on they would be ever more. */
    private static void anewAtOnce() {
        Due due = Due.of("anew", "A()yb|zi{y=T;${z=0;?T>1;}{z=1->~z+1;?T>0;};}"
                + "B()yb|zi{y=T;${z=0;?T~1;}{z=1->~z+1;?T>0;};}"
                + "C()yb|zi{y=T;${z=0;!T>1;}{z=1->~z+1;!T~0;};}"
                + "D()yb|zi{y=T;${z=0;!T~1;}{z=1->~z+1;!T>0;};}");
        due.prove(0, 0, 300, 1);
        due.run(-2, 3);
        due.prove(1, 0, 300, 2);
        // strong: as new ahead of the tick, which leaves 1 and the first time behind it
        due.prove(2, 0, 300, 1);
        due.run(-2, 3);
        due.prove(3, 0, 300, 2);
    }

    /** "tick NONE: how many ticks it has (0 unless it told 0); tick -2: how many MEMORIES were found. NONE .." */
    private static void runs() {
        Due due = Due.of("run()", "A(ab,bb)yb|ni{n=0->~n+(a&b?1:0);y=n<3;}B()yb|ni{n=0->~n+1;y=T;}");
        due.prove(0, 0, 300, 0);
        due.run(-1, 4);
        due.run(-2, 4);
        int[] inputs = {0, 3, 3, 3};
        for (int k = 0; k < 4; k++) {
            due.run(k, inputs[k]);
        }
        due.run(4, -1);
        due.run(-3, -1);
        due.run(Due.LEAST, -1);
        due.run(Due.MOST, -1);
        due.run(300, -1);
        due.prove(1, 0, 7, 2);
        due.run(-1, 0);
        due.run(-2, 7);
        due.run(0, -1);
        due.alike(1, 1, 7, 2);
        due.run(-1, 0);
        due.run(-2, 7);
        due.run(0, -1);
    }

    /** "NONE if there is none such": no prove() or alike() has told anything yet. */
    private static void noRun() {
        Due due = new Due("no run");
        for (int tick = -3; tick <= 3; tick++) {
            due.run(tick, -1);
        }
        due.fits("A(ab)yb{y=a;}B(ai)yb{y=T;}");
        due.prove(1, 0, 9, -1);
        due.alike(0, 1, 9, -1);
        for (int tick = -3; tick <= 3; tick++) {
            due.run(tick, -1);
        }
        due.prove(0, 0, 9, 0);
        due.run(-3, -1);
        due.run(-2, 1);
        due.run(-1, 1);
        due.run(0, 0);
        due.run(1, -1);
    }

    /** "Of the latest prove() or alike() that told 0, 1 or 2". */
    private static void latestRun() {
        Due due = Due.of("latest", "A(ab)yb{y=!a;}B(ab)yb{y=T;}C()yb|ni{n=0->~n+1;y=T;}");
        due.prove(0, 0, 9, 0);
        due.run(-1, 1);
        due.run(0, 1);
        due.prove(1, 0, 9, 1);
        due.run(-1, 0);
        due.run(0, -1);
        due.alike(0, 1, 9, 0);
        due.run(-1, 1);
        due.run(0, 1);
        due.prove(2, 0, 5, 2);
        due.run(-1, 0);
        due.run(-2, 5);
        due.alike(0, 1, 9, 0);
        due.alike(0, 2, 9, -1);
        due.run(-1, 1);
        due.run(-2, 1);
    }

    /** As many ticks as a RUN can have: one for each of 300 MEMORIES. */
    private static void longestRun() {
        Due due = Due.of("longest", "A(ab)yb|ni{n=0->~n+(a?1:0);y=n<300;}");
        due.prove(0, 0, 300, 2);
        due.run(-1, 0);
        due.run(0, -1);
        due = Due.of("longest", "A(ab)yb|ni{n=0->~n+(a?1:0);y=n<299;}");
        due.prove(0, 0, 300, 0);
        due.run(-1, 300);
        due.run(-2, 300);
        // n is 0 in the first tick whatever a is
        due.run(0, 0);
        for (int k = 1; k < 300; k++) {
            due.run(k, 1);
        }
        due.run(300, -1);
        due = Due.of("longest", "A()yb|ni{n=0->~n+1;y=n<299;}");
        due.prove(0, 0, 300, 0);
        due.run(-1, 300);
        due.run(-2, 300);
        due.run(299, 0);
        due.run(300, -1);
        due.prove(0, 0, 299, 2);
        due.run(-2, 299);
        due.run(299, -1);
    }
}
