/** Sentences of the document that seemed to leave a choice at first, with what their words say most plainly. */
public final class SentencesTest {
    private static final String ONE = "B(xi)ui{u=x;}";

    public static void main(String[] args) {
        callsTooDeep();
        clocksOfEquationsInStates();
        memoriesOfTwo();
        runOverNewModules();
        freeSamples();
        parenthesesBelong();
        lettersThatAreNotTold();
        madeIsNoBoundOfNodes();
        Due.end();
    }

    /** "of - ! ~ ( [ and calls' ( those that are open", "the first character that can't stand (.. too deep ..)". */
    private static void callsTooDeep() {
        Due.good(ONE + "A()yi{y=" + "(".repeat(19) + "B(1)" + ")".repeat(19) + ";}");
        Due.bad(1, ONE + "A()yi{y=" + "(".repeat(20) + "B`(1)" + ")".repeat(20) + ";}");
        Due.bad(1, ONE + "A()yi{y=" + "(".repeat(20) + "B`1)" + ")".repeat(20) + ";}");
        // its NAME can stand wherever a K can, told or not
        Due.bad(1, "A()yi{y=" + "-".repeat(20) + "H`();}");
        Due.bad(1, ONE + "A()yi{y=" + "(".repeat(20) + "B`");
        // what is behind the ) of a call is not within it
        Due.good(ONE + "A(cb)yi{y=" + "(".repeat(19) + "B(1)^c+B(2)" + ")".repeat(19) + ";}");
        Due.good(ONE + "A(cb)yi{${y=" + "(".repeat(19) + "B(1)" + ")".repeat(19) + ";};}");
        Due.bad(1, ONE + "A(cb)yi{${y=" + "(".repeat(20) + "B`(1)" + ")".repeat(20) + ";};}");
        // in a transition there is none, however deep
        Due.bad(1, ONE + "A(cb)yi{y=1;${?" + "(".repeat(20) + "`B(1)=1" + ")".repeat(20) + "~0;};}");
    }

    /** "An EQUATION's letters are all on what the first one is on .., the X, too, or FREE", "the least place". */
    private static void clocksOfEquationsInStates() {
        String head = "A(cb)yi|zi@c=0{z=1;${y=";
        Due.bad(4, head + "`z;};}");
        Due.bad(4, head + "`-z;};}");
        Due.bad(4, head + "`'z;};}");
        Due.bad(4, head + "`((z));};}");
        Due.bad(4, head + "`1+z;};}");
        Due.bad(4, head + "`1->2->z;};}");
        Due.bad(4, head + "`z->1;};}");
        // a part of an X that is on the BASE: the part, or the letter itself
        Due.bad(4, "A(cb,xi)yi|zi@c=0{z=1;${y=x+`(1+z);};}");
        Due.bad(4, "A(cb,xi)yi|zi@c=0{z=1;${y=x+`'z;};}");
        Due.bad(4, ONE + "A(cb,xi)yi|zi@c=0{z=1;${y=`B(z);};}");
        Due.bad(4, ONE + "A(cb,xi)yi|zb@c{z=T;${y=B(x)^`z;};}");
        Due.bad(4, ONE + "A(cb,xi)yi|zb@c{z=T;${y=`B(1)^z;};}");
        // the first letter ahead of its X, and what transitions have is no EQUATION's X
        Due.bad(4, "A(cb)yi|zi@c{y=1;${`z=z->1;};}");
        Due.bad(4, "A(cb)yi|zi@c=0{z=1;${y=1;!-`z<1>0;};}");
        Due.bad(4, "A(cb)yi|zi@c=0{z=1;${y=1;?('`z)=1>0;};}");
        Due.good("A(cb,xi)yi|zi@c=0{z=1;${y=1+x->2;!-x<1>0;};}");
    }

    /** "tick -2: how many MEMORIES were found", "2 as soon as one more would be found". */
    private static void memoriesOfTwo() {
        Due due = Due.of("told 2", "A(ab)yb|ni{n=0->~n+(a?1:0);y=T;}");
        for (int most = 1; most <= 300; most += 23) {
            due.prove(0, 0, most, 2);
            due.run(-2, most);
            due.run(-1, 0);
            due.run(0, -1);
            due.alike(0, 0, most, 2);
            due.run(-2, most);
            due.run(-1, 0);
            due.run(0, -1);
        }
    }

    /** "Of the latest prove() or alike() that told 0, 1 or 2". */
    private static void runOverNewModules() {
        Due due = Due.of("run()", "A(ab)yb{y=T->~!a;}");
        due.prove(0, 0, 9, 0);
        due.fits("B(xi)yi{y=x;}");
        due.run(-1, 2);
        due.run(0, 1);
        due.run(1, 0);
        due.run(-2, 3);
        due.faults(2, "A(xi)yi{y=`z;}");
        due.run(-1, 2);
        due.run(-2, 3);
        due.prove(0, 0, 9, -1);
        due.run(-1, 2);
        due.make(0, 0);
        due.tick(0, 0);
        due.run(1, 0);
        due.fits("A()yb{y=T;}");
        due.run(-1, 2);
        due.alike(0, 0, 9, 1);
        due.run(-1, 0);
        due.run(-2, 1);
        due.run(0, -1);
    }

    /** "X @ c: X on what c is on, or FREE", "A FREE part is on what it must be on." */
    private static void freeSamples() {
        // on the BASE: its first time is the first tick, and it FAILS where c is 0, too
        Due due = Due.of("FREE", "A(cb)yi|zi@c{z=(1->2)@c;y=[c,z,0];}");
        due.make(0, 0);
        due.goes(0, 0);
        due.goes(1, 2);
        due = Due.of("FREE", "A(cb)yi|zi@c{z=(1->2)@c;y=[c,z,0];}");
        due.make(0, 0);
        due.goes(1, 1);
        due.goes(0, 0);
        due.goes(1, 2);
        String text = "A(cb)yi|zi@c{z=(1/0)@c;y=1;}B(cb)yi|zi@c{z=1/0;y=1;}"
                + "C(cb)yi|zi@c,wb@c,vi@w{z=1;w=T;v=(1/0)@w;y=1;}";
        due = Due.of("FREE", text);
        int first = text.indexOf('/');
        int second = text.indexOf('/', first + 1);
        int third = text.indexOf('/', second + 1);
        for (int k = 0; k < 3; k++) {
            due.make(k, k);
        }
        due.tick(0, 1 + first);
        due.tick(1, 0);
        due.tick(2, 0);
        for (int k = 0; k < 3; k++) {
            due.put(k, 0, 1, true);
        }
        due.tick(0, 1 + first);
        due.tick(1, 1 + second);
        due.tick(2, 1 + third);
    }

    /** "it may stand within ( ), which belong to it": a part begins where its ( does. */
    private static void parenthesesBelong() {
        Due.bad(3, "A(xi)yi{y=1+`((T));}");
        Due.bad(3, "A(xi)yi{y=`(T)+1;}");
        Due.bad(3, "A(xi)yi{y=(1+`(T))*2;}");
        Due.bad(3, ONE + "A(xi)yi{y=1+`(B());}");
        Due.bad(4, "A(cb,xi)yi|zi@c{z=1;y=x+`(z);}");
        Due.bad(5, "A(xi)yi|zi{y=1;z=~`(~x);}");
        Due.bad(5, "A(xi)yi|zi{y=1;z=`(~x)->1;}");
    }

    /** "a letter that has an equation in one STATE of an AUTOMATON, but not in another one (at the $)": any letter. */
    private static void lettersThatAreNotTold() {
        Due.bad(2, "A()yi{y=1;`${z=1;}{};}");
        Due.bad(2, "A(xi)yi{y=1;`${x=1;}{};}");
        Due.bad(2, "A()yi{y=1;${`z=1;}{z=1;};}");
        Due.bad(2, "A(xi)yi{y=1;${`x=1;}{x=1;};}");
    }

    /** "no such NODE (by make()'s bounds, too)": bounds of the NODE, not how many were made. */
    private static void madeIsNoBoundOfNodes() {
        Due due = Due.of("8 made", "A(ab)yb{y=a|!a;}");
        for (int k = 0; k < 8; k++) {
            due.make(0, k);
        }
        due.make(0, -1);
        due.prove(0, 0, 1, 1);
        due.alike(0, 0, 1, 1);
        due.total(2, 8);
    }
}
