/** Promises 15 to 17: prove, alike, run. */
public final class ProveTest {
    public static void main(String[] args) {
        proving();
        theFirstRun();
        failing();
        bounds();
        manyMemories();
        wrongCalls();
        alike();
        alikeFailing();
        alikeWrongCalls();
        latest();
        Due.end();
    }

    private static void proving() {
        Due due = Due.of("proving", "A(ab,bb)yb{y=a|b|!a;}B(ab)yb{y=T->~(a|T);}C(ab)yb,zi,wb{y=a;z=1;w=!a|a;}");
        due.prove(0, 0, 1, 1);
        due.run(-1, 0);
        due.run(-2, 1);
        due.run(0, -1);
        due.prove(1, 0, 3, 1);
        due.run(-2, 2);
        due.run(-1, 0);
        due.prove(2, 0, 3, 0);
        due.run(-1, 1);
        due.run(0, 0);
        due.run(1, -1);
        due.run(-2, 1);
        due.run(-3, -1);
        due.prove(2, 2, 3, 1);
    }

    private static void theFirstRun() {
        // y falls when a has been 1, b then 1, and then both at once
        Due due = Due.of("run", "A(ab,bb)yb|ni,mi{y=!(n=2&a&b);n=0->~m;m=n=0&a?1:n=1&b?2:n;}");
        due.prove(0, 0, 300, 0);
        due.run(-1, 3);
        due.run(0, 1);
        due.run(1, 2);
        due.run(2, 3);
        // the first tick, and n at 0, 1 and 2 behind it
        due.run(-2, 4);
        // a run that goes back over the same MEMORY is never the first one
        due = Due.of("automaton", "A(ab)yb{${y=T;?a>1;}{y=T;?!a>2;}{y=a;};}");
        due.prove(0, 0, 300, 0);
        due.run(-1, 3);
        due.run(0, 1);
        due.run(1, 0);
        due.run(2, 0);
        due.run(-2, 3);
    }

    private static void failing() {
        Due due = Due.of("failing", "A(ab)yb{y=1/(a?1:0)<9;}B(ab)yb{y=T;${}{};${?1/(a?0:1)=7>0;};}");
        due.prove(0, 0, 9, 0);
        due.run(-1, 1);
        due.run(0, 0);
        due.prove(1, 0, 9, 0);
        due.run(0, 1);
    }

    private static void bounds() {
        // 0 -> 1 -> 2 -> .. modulo 5, and one more for the first tick
        Due due = Due.of("bounds", "A()yb|ni{n=(0->~n+1)%5;y=n<5;}");
        due.prove(0, 0, 300, 1);
        due.run(-2, 6);
        due.prove(0, 0, 6, 1);
        due.run(-2, 6);
        due.prove(0, 0, 5, 2);
        due.run(-2, 5);
        due.run(-1, 0);
        due.run(0, -1);
        due.prove(0, 0, 1, 2);
        due.run(-2, 1);
        due.alike(0, 0, 6, 1);
        due.alike(0, 0, 5, 2);
        due.run(-2, 5);
    }

    private static void manyMemories() {
        Due due = Due.of("many", "A()yb|ni{n=0->~n+1;y=n<299;}B()yb|ni{n=0->~n+1;y=n<300;}"
                + "C()yb|ni{n=(0->~n+1)%299;y=T;}D()yb|ni{n=(0->~n+1)%300;y=T;}");
        due.prove(0, 0, 300, 0);
        due.run(-1, 300);
        due.run(299, 0);
        due.run(300, -1);
        due.run(-2, 300);
        due.prove(1, 0, 300, 2);
        due.run(-1, 0);
        due.prove(2, 0, 300, 1);
        due.run(-2, 300);
        due.prove(3, 0, 300, 2);
        due.run(-2, 300);
        due.alike(2, 2, 300, 1);
        due.alike(0, 1, 300, 0);
        due.run(-1, 300);
        // the first one, and 8 latest INPUTS that are 0 or 1 each
        String register = "|bb,cb,db,eb,fb,gb,hb,ib{b=U->~a;c=U->~b;d=U->~c;e=U->~d;f=U->~e;g=U->~f;h=U->~g;i=U->~h;";
        due = Due.of("register", "A(ab)yb" + register + "y=!(b&c&d&e&f&g&!h&i);}"
                + "B(ab)zb,yb" + register + "y=i|!i;z=b;}");
        due.prove(0, 0, 300, 0);
        due.run(-1, 9);
        int[] due9 = {1, 0, 1, 1, 1, 1, 1, 1, 0};
        for (int k = 0; k < 9; k++) {
            due.run(k, due9[k]);
        }
        due.prove(1, 1, 300, 1);
        due.run(-2, 257);
        due.prove(1, 1, 257, 1);
        due.prove(1, 1, 256, 2);
        due.run(-2, 256);
    }

    private static void wrongCalls() {
        Due due = Due.of("wrong calls", "A(ab)yb,zi{y=a;z=1;}B(ai)yb{y=T;}C(ab,bb,cb,db)yb{y=T;}"
                + "D(ab,bb,cb,db,eb)yb{y=T;}");
        due.prove(2, 0, 1, 1);
        due.prove(0, 0, 0, -1);
        due.prove(0, 0, 301, -1);
        due.prove(0, 0, -1, -1);
        due.prove(0, 1, 9, -1);
        due.prove(0, 2, 9, -1);
        due.prove(0, -1, 9, -1);
        due.prove(1, 0, 9, -1);
        due.prove(3, 0, 9, -1);
        due.prove(4, 0, 9, -1);
        due.prove(-1, 0, 9, -1);
        due.run(-2, 1);
        due.run(-1, 0);
        due.prove(0, 0, 9, 0);
        due.prove(1, 0, 9, -1);
        due.alike(0, 1, 9, -1);
        due.run(-1, 1);
        due.run(0, 0);
    }

    private static void alike() {
        String two = "A(ab)yb,ni{y=U->~a;n=1;}B(xb)zb=0,ci|db=0{z='d;d=x;c=1;}C(xb)zb,ci{z=U->~(x&(U->T));c=1;}";
        Due due = Due.of("alike", two);
        due.alike(0, 1, 9, 1);
        due.run(-1, 0);
        // the first one; behind it each of the latest two INPUTS is 0 or 1, for z's LAST is remembered, too
        due.run(-2, 5);
        due.alike(0, 2, 9, 0);
        due.run(-1, 2);
        due.run(0, 1);
        due.run(1, 0);
        due.alike(2, 0, 9, 0);
        due.alike(1, 0, 9, 1);
        due.run(-2, 5);
        due.alike(0, 1, 2, 2);
        due.run(-2, 2);
        due.alike(2, 2, 9, 1);
        due = Due.of("first ones", "A(ab)yb=1{y='y;}B(ab)yb{y=T;}");
        due.alike(1, 0, 9, 1);
        due.alike(0, 1, 9, 1);
    }

    private static void alikeFailing() {
        // the FAILING tick of both leaves both as they are
        Due due = Due.of("failing", "A(ab)yb|ni{n=0->~n+1;y=1/(a?0:1)=1;}B(ab)yb{y=T&1/(a?0:1)<5;}C(ab)yb{y=T;}"
                + "D(ab)yb=0{y=!'y&1/(a?0:1)=1;}E(ab)yb|ni=0{y=1/(a?0:1)=1;n=a?'n+1:'n;}");
        due.alike(1, 2, 9, 0);
        due.run(-1, 1);
        due.run(0, 1);
        due.alike(2, 1, 9, 0);
        due.alike(0, 1, 5, 2);
        due.alike(1, 1, 5, 1);
        due.run(-2, 1);
        due.alike(3, 3, 5, 1);
        due.run(-2, 2);
        due.alike(4, 4, 5, 1);
        due.run(-2, 1);
        due.alike(3, 1, 5, 0);
        due.run(-1, 2);
        due.run(0, 0);
        due.run(1, 0);
    }

    private static void alikeWrongCalls() {
        Due due = Due.of("wrong calls", "A(ab)yb{y=a;}B(ab)yi{y=1;}C(ab,bb)yb{y=a;}D(ab)yb,zb{y=a;z=a;}E(ai)yb{y=T;}"
                + "F(ab,bb,cb,db,eb)yb{y=T;}G(zb)bb{b=z;}H(ab)yb,zi{y=a;z=1;}");
        due.alike(0, 6, 1, 1);
        due.alike(0, 1, 9, -1);
        due.alike(0, 2, 9, -1);
        due.alike(0, 3, 9, -1);
        due.alike(3, 7, 9, -1);
        due.alike(0, 4, 9, -1);
        due.alike(4, 4, 9, -1);
        due.alike(5, 5, 9, -1);
        due.alike(0, 8, 9, -1);
        due.alike(8, 0, 9, -1);
        due.alike(-1, 0, 9, -1);
        due.alike(0, -1, 9, -1);
        due.alike(0, 6, 0, -1);
        due.alike(0, 6, 301, -1);
        due.run(-2, 1);
        due.alike(1, 1, 9, 1);
        due.alike(7, 7, 9, 1);
    }

    private static void latest() {
        Due due = Due.of("latest", "A(ab)yb{y=a;}B(ab)yb{y=T;}");
        due.run(-1, -1);
        due.prove(0, 0, 0, -1);
        due.run(-1, -1);
        due.run(-2, -1);
        due.prove(0, 0, 1, 0);
        due.make(0, 0);
        due.tick(0, 0);
        due.run(-1, 1);
        due.fits("A(ai)yi{y=a;}");
        due.run(-1, 1);
        due.run(0, 0);
        due.prove(0, 0, 9, -1);
        due.run(-1, 1);
        due.fits("A(ab)yb{y=T;}");
        due.prove(0, 0, 9, 1);
        due.run(-1, 0);
        due.run(0, -1);
        // an INSTANCE is not touched by proving
        due.fits("A(ab)yb=0{y=a|'y;}");
        due.make(0, 0);
        due.goes(1, 1);
        due.prove(0, 0, 9, 0);
        due.goes(0, 1);
        due.flow(0, 'a', 0);
    }
}
