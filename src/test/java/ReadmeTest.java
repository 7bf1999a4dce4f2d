/** What README.md shows of the class is so. */
public final class ReadmeTest {
    public static void main(String[] args) {
        aFirstProgram();
        sums();
        samples();
        begunAnew();
        automaton();
        proving();
        Due.end();
    }

    private static void aFirstProgram() {
        Due due = Due.of("a first program", "A(xi)yi{y=x->~y+x;}");
        due.make(0, 0);
        due.put(0, 0, 5, true);
        due.tick(0, 0);
        due.tick(0, 0);
        due.out(0, 0, 10);
        due.save(0, 0, true);
        due.tick(0, 0);
        due.out(0, 0, 15);
        due.back(0, 0, true);
        due.ticks(0, 2);
        due.tick(0, 0);
        due.out(0, 0, 15);
    }

    private static void sums() {
        Due due = Due.of("a sum", "A(xi)yi=7{y='y+x;}");
        due.make(0, 0);
        due.goes(1, 8);
        due.goes(4, 12);
        due.goes(-20, -8);
    }

    private static void samples() {
        Due due = Due.of("samples", "A(xi,cb)yi|zi@c{z=x@c;y=[c,z,0];}");
        due.make(0, 0);
        due.goes(3, 1, 3);
        due.flow(0, 'z', 3);
        due.goes(4, 0, 0);
        due.flow(0, 'z', Due.THROWS);
        due.goes(5, 1, 5);
    }

    private static void begunAnew() {
        Due due = Due.of("begun anew", "B(xi)si{s=x->~s+x;}A(xi,rb)yi{y=B(x)^r;}");
        due.make(1, 0);
        due.goes(3, 0, 3);
        due.goes(4, 0, 7);
        due.goes(5, 1, 5);
        due.goes(6, 0, 11);
        due.goes(7, 1, 7);
        due.goes(8, 1, 8);
    }

    private static void automaton() {
        Due due = Due.of("automaton", "A(gb)yi{${y=0->~y+1;?g>1;}{y=9;!!g~0;};}");
        due.make(0, 0);
        due.goes(0, 0);
        due.goes(0, 1);
        // weak: from the next tick on
        due.goes(1, 2);
        due.state(0, 0, 1);
        due.goes(1, 9);
        // strong: in this tick, and STATE 0 goes on
        due.goes(0, 3);
        due.state(0, 0, 0);
    }

    private static void proving() {
        Due due = Due.of("proving", "A(ab)yb|ni,mi{n=a?(1->~m):0;m=n<3?n+1:3;y=n<3;}"
                + "B(ab)yb{y=!a|(T->~(!a|(T->~!a)));}");
        due.prove(0, 0, 9, 0);
        due.run(TickHouse.NONE, 3);
        due.run(2, 1);
        due.run(-2, 4);
        due.alike(0, 1, 9, 1);
        due.prove(0, 0, 2, 2);
    }
}
