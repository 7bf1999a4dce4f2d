/** Promises 5 to 14: node, make, put, tick, out, flow, state, ticks, save, back. */
public final class RunTest {
    private static final int LEAST = Integer.MIN_VALUE;
    private static final int MOST = Integer.MAX_VALUE;

    public static void main(String[] args) {
        nodes();
        bigNodes();
        making();
        putting();
        arithmetic();
        truths();
        delays();
        bothAreWorkedOut();
        lasts();
        sampled();
        clocksOfFreeParts();
        order();
        calls();
        callsBegunAnew();
        callsOfSeveral();
        failing();
        failingChangesNothing();
        strong();
        weak();
        statesRemember();
        automataAndLast();
        answersOfTicks();
        keeping();
        Due.end();
    }

    private static void nodes() {
        Due due = Due.of("nodes", "B(xi,cb)yi=1,zb|wi@c{y=x->~y;z=T;w=1@c;${}{};}A()yi|ub,vb{y=0->~1;u=T;v=U;}"
                + "C()yi,zb,ai,bb{y,z=B(1,T);a,b=B(2,U);}");
        due.node(0, 0, 'B');
        due.counts(0, 2, 2, 1, 1, 4);
        due.node(1, 0, 'A');
        due.counts(1, 0, 1, 2, 1, 2);
        due.node(2, 0, 'C');
        due.counts(2, 0, 4, 0, 3, 8);
        due.node(3, 0, -1);
        due.node(-1, 0, -1);
        due.node(0, 6, -1);
        due.node(0, -1, -1);
        due.node(MOST, 0, -1);
        due.node(LEAST, 0, -1);
    }

    private static void bigNodes() {
        String ten = "=" + "X(x)+".repeat(9) + "X(x);}";
        StringBuilder text = new StringBuilder("A(xi)yi{y=0->~x;}");
        for (char name = 'B'; name <= 'H'; name++) {
            text.append(name).append("(xi)yi{y").append(ten.replace('X', (char) (name - 1)));
        }
        Due due = Due.of("big nodes", text.toString());
        due.counts(0, 1, 1, 0, 1, 2);
        due.counts(1, 1, 1, 0, 11, 20);
        due.counts(2, 1, 1, 0, 111, 200);
        due.counts(3, 1, 1, 0, 1111, 2000);
        due.counts(5, 1, 1, 0, 111111, 200000);
        due.counts(6, 1, 1, 0, 1000000, 1000000);
        due.counts(7, 1, 1, 0, 1000000, 1000000);
        due.make(7, -1);
        due.make(2, -1);
        due.make(1, 0);
        due.prove(2, 0, 1, -1);
        due.put(0, 0, 7, true);
        due.goes(7, 0);
        due.goes(8, 70);
        due.goes(9, 80);
    }

    private static void making() {
        Due due = Due.of("making", "A()yi{y=1;}");
        due.make(-1, -1);
        due.make(1, -1);
        for (int k = 0; k < 8; k++) {
            due.total(2, k);
            due.make(0, k);
        }
        due.make(0, -1);
        due.total(2, 8);
        due.fits("A()yi{y=1;}");
        due.make(0, 0);
        // 60 INSTANCES are not too many, 61 are; 300 values are not, 301 are
        due = Due.of("bounds", "A()yi{y=1;}B()yi{y=" + "A()+".repeat(58) + "A();}C()yi{y=B()+1;}");
        due.node(1, 4, 60);
        due.node(2, 4, 61);
        due.make(1, 0);
        due.make(2, -1);
        due.tick(0, 0);
        due.out(0, 0, 59);
        String many = "(" + "1->".repeat(19) + "1)+(" + "1->".repeat(18) + "1)";
        due = Due.of("bounds", "A()yi{y=" + many + ";}B()yi{y=A()+A()+A()+A()+A()+A()+A()+A();}"
                + "C()yi=0{y=B()->1->1->1;}D()yi=0{y=B()->1->1->1->1;}");
        due.node(0, 5, 37);
        due.node(1, 5, 296);
        due.node(2, 5, 300);
        due.node(3, 5, 301);
        due.make(2, 0);
        due.make(3, -1);
        due.tick(0, 0);
        due.out(0, 0, 16);
        due.tick(0, 0);
        due.out(0, 0, 1);
    }

    private static void putting() {
        Due due = Due.of("putting", "A(xi,cb)yi,db{y=x;d=c;}");
        due.put(0, 0, 1, false);
        due.make(0, 0);
        due.make(0, 1);
        due.tick(0, 0);
        due.out(0, 0, 0);
        due.out(0, 1, 0);
        due.put(0, 2, 1, false);
        due.put(0, -1, 1, false);
        due.put(2, 0, 1, false);
        due.put(-1, 0, 1, false);
        due.put(0, 0, LEAST, true);
        due.put(0, 1, LEAST, true);
        due.flow(0, 'x', 0);
        due.tick(0, 0);
        due.out(0, 0, LEAST);
        due.out(0, 1, 1);
        due.flow(0, 'c', 1);
        due.tick(0, 0);
        due.out(0, 0, LEAST);
        due.put(0, 1, 0, true);
        due.tick(0, 0);
        due.out(0, 1, 0);
        due.tick(1, 0);
        due.out(1, 0, 0);
    }

    /** Each one with INPUTS a and b, and what y is in the first tick. */
    private static void worth(String sort, String x, int a, int b, int want) {
        Due due = Due.of(x, "A(ai,bi)y" + sort + "{y=" + x + ";}");
        due.make(0, 0);
        due.goes(a, b, want);
    }

    private static void arithmetic() {
        worth("i", "a+b", MOST, 1, LEAST);
        worth("i", "a-b", LEAST, 1, MOST);
        worth("i", "a*b", 65536, 65536, 0);
        worth("i", "-a", LEAST, 0, LEAST);
        worth("i", "a/b", -7, 2, -3);
        worth("i", "a/b", 7, -2, -3);
        worth("i", "a%b", -7, 2, -1);
        worth("i", "a%b", 7, -2, 1);
        worth("i", "a/b", LEAST, -1, LEAST);
        worth("i", "a%b", LEAST, -1, 0);
        worth("i", "a/b", 9, -1, -9);
        worth("i", "a-b-1", 10, 3, 6);
        worth("i", "a-(b-1)", 10, 3, 8);
        worth("i", "a/b*2%7", 10, 3, 6);
        worth("i", "1+a*b-2", 10, 3, 29);
        worth("i", "-a--b", 10, 3, -7);
        worth("i", "---a", 10, 3, -10);
        worth("i", "999999999+a", 1, 3, 1000000000);
        worth("i", "a<b?a:b", 10, 3, 3);
        worth("i", "a<b?1:a=10?b=3?2:3:4", 10, 3, 2);
    }

    private static void truths() {
        worth("b", "a<b", 1, 2, 1);
        worth("b", "a<b", 2, 2, 0);
        worth("b", "a>b", 2, 1, 1);
        worth("b", "a>b", LEAST, MOST, 0);
        worth("b", "a=b", 2, 2, 1);
        worth("b", "a#b", 2, 2, 0);
        worth("b", "T|U&U", 0, 0, 1);
        worth("b", "(T|U)&U", 0, 0, 0);
        worth("b", "!T|T", 0, 0, 1);
        worth("b", "!(T|T)", 0, 0, 0);
        worth("b", "a+1<b*2&b#a", 1, 2, 1);
        worth("b", "(a<b)=(b<a)", 1, 1, 1);
        worth("b", "T#U", 1, 1, 1);
        worth("b", "T=U|T", 1, 1, 1);
    }

    private static void delays() {
        Due due = Due.of("delays", "A(xi)yi,zi,wi{y=x->~y+x;z=100->200->~x;w=0->~(0->~x);}");
        due.make(0, 0);
        int[] puts = {5, 7, 1, 2};
        int[] sums = {5, 12, 13, 15};
        // the second -> has had its first time in the first tick, too
        int[] later = {100, 5, 7, 1};
        int[] twice = {0, 0, 5, 7};
        for (int k = 0; k < 4; k++) {
            due.goes(puts[k], sums[k]);
            due.out(0, 1, later[k]);
            due.out(0, 2, twice[k]);
        }
    }

    private static void bothAreWorkedOut() {
        String text = "B(xi)yi{y=x->~y+1;}A(cb)yi{y=c?B(10):B(20);}C(xi)yi{y=1->2/~x;}D(cb,xi)yi{y=c?1/x:0;}";
        Due due = Due.of("both", text);
        due.make(1, 0);
        due.goes(1, 10);
        due.goes(0, 21);
        due.goes(1, 12);
        // ~x is 0 at first, and what is behind -> is worked out then, too
        due.make(2, 1);
        due.put(1, 0, 1, true);
        due.tick(1, 1 + text.indexOf("/~x"));
        due.make(3, 2);
        due.tick(2, 1 + text.indexOf("/x:0"));
    }

    private static void lasts() {
        Due due = Due.of("lasts", "A(cb,xi)yi=5,zb=7,ui|wi@c=9{y='y+x;z='z&U;w='w+1;u=[c,'w,0]+(x=0?1:0);}");
        due.make(0, 0);
        due.goes(0, 2, 7);
        due.out(0, 1, 0);
        due.flow(0, 'w', Due.THROWS);
        due.out(0, 2, 0);
        due.goes(1, 2, 9);
        due.flow(0, 'w', 10);
        due.out(0, 2, 9);
        due.goes(0, 0, 9);
        due.out(0, 2, 1);
        due.goes(1, 0, 9);
        due.flow(0, 'w', 11);
        due.out(0, 2, 11);
        due = Due.of("last of a truth", "A()yb=7{y=U->'y;}B()yb=7{y='y;}C()yb=0{y='y;}");
        due.make(1, 0);
        due.make(2, 1);
        due.tick(0, 0);
        due.tick(1, 0);
        due.out(0, 0, 1);
        due.out(1, 0, 0);
    }

    private static void sampled() {
        Due due = Due.of("sampled", "A(cb,xi)yi,zi|ui@c,vi@!c,db@c,wi@d{u=x@c->~u+1;v=x@!c;y=[c,u,v];d=u>3;w=u@d;"
                + "z=[c,[d,w,0-1],0-2];}");
        due.make(0, 0);
        due.goes(0, 8, 8);
        due.flow(0, 'u', Due.THROWS);
        due.flow(0, 'v', 8);
        due.flow(0, 'd', Due.THROWS);
        due.flow(0, 'w', Due.THROWS);
        due.out(0, 1, -2);
        due.goes(1, 3, 3);
        due.flow(0, 'u', 3);
        due.flow(0, 'v', Due.THROWS);
        due.flow(0, 'd', 0);
        due.flow(0, 'w', Due.THROWS);
        due.out(0, 1, -1);
        due.goes(0, 6, 6);
        due.goes(1, 50, 4);
        due.flow(0, 'd', 1);
        due.flow(0, 'w', 4);
        due.out(0, 1, 4);
    }

    /** A FREE part is on what it must be on: its -> goes by that. */
    private static void clocksOfFreeParts() {
        Due due = Due.of("free parts", "A(cb)yi|zi@c,wi@c{z=1->2;w=(3->4)@c;y=[c,z*10+w,(5->6)];}");
        due.make(0, 0);
        due.goes(0, 5);
        due.goes(0, 6);
        due.goes(1, 14);
        due.goes(0, 6);
        due.goes(1, 24);
        String text = "A(cb,xi)yi|zi@c{z=7;y=[c,z,(5->6)+1/x@!c];}B(cb,xi)yi|zi@!c{z=(1/x)@!c;y=c?1:2;}"
                + "C(cb)yi{y=[c,1,2/0];}";
        due = Due.of("free parts", text);
        due.make(0, 0);
        due.goes(1, 0, 7);
        due.goes(0, 2, 5);
        due.goes(0, 1, 7);
        due.put(0, 1, 0, true);
        due.tick(0, 1 + text.indexOf('/'));
        due.make(1, 1);
        due.put(1, 0, 1, true);
        // on what c is on, not on @!c
        due.tick(1, 1 + text.indexOf("/x)@"));
        due.make(2, 2);
        due.tick(2, 1 + text.lastIndexOf('/'));
        due.put(2, 0, 1, true);
        due.tick(2, 0);
        // (3->4) is on what d is on: its first time is the first tick in which c is 1
        due = Due.of("free parts", "A(cb,eb)yi|db@c,zi@d{d=e@c;z=(3->4)@d;y=[c,[d,z,0],1];}");
        due.make(0, 0);
        due.save(0, 0, true);
        due.goes(0, 1, 1);
        due.goes(1, 1, 3);
        due.goes(1, 1, 4);
        due.back(0, 0, true);
        due.goes(1, 0, 0);
        due.goes(1, 1, 4);
        due = Due.of("free parts in calls", "C(xi)yi{y=x->~y+1;}A(cb)yi|zi@c{z=C((3->4)@c)+(1->2);y=[c,z,0];}");
        due.make(1, 0);
        due.goes(0, 0);
        due.goes(1, 5);
        due.goes(0, 0);
        due.goes(1, 7);
    }

    /** Whatever the order told: what another EQUATION needs is worked out ahead of it, in each NODE anew. */
    private static void order() {
        Due due = Due.of("order", "A()yi,zi{y=1;z=1;}B(xi)yi,zi,wi{y=z+w;z=w*2;w=x;}");
        due.make(1, 0);
        due.goes(5, 15);
        due.goes(6, 18);
        due = Due.of("order of clocks", "A(ab)yi|zi@c,cb,wi@a{z=7;w=8;c=!a;y=[c,z,0]+[a,w,1];}");
        due.make(0, 0);
        due.goes(0, 8);
        due.goes(1, 8);
        due.flow(0, 'w', 8);
        due.flow(0, 'z', Due.THROWS);
        due.goes(0, 8);
        due.flow(0, 'w', Due.THROWS);
        due.flow(0, 'z', 7);
        for (char c = 'a'; c <= 'w'; c++) {
            due = Due.of("order of letters", "A(xb)yi|zi@C,Cb{z=7;y=[C,z,5];C=!x;}".replace('C', c));
            due.make(0, 0);
            due.goes(0, 7);
            due.goes(1, 5);
            due = Due.of("order of letters", "D()ui{u=1;}A(xi)yi|Ci{y=C*2;C=x+1;}".replace('C', c));
            due.make(1, 0);
            due.goes(3, 8);
            due.goes(4, 10);
        }
        due = Due.of("order of automata", "A(xi)yi,zi{${y=z;!z=3~1;}{y=z+100;!z=4~0;};${z=x;}{z=0;};}");
        due.make(0, 0);
        due.goes(2, 2);
        due.goes(3, 103);
        due.goes(4, 4);
    }

    private static void calls() {
        Due due = Due.of("calls", "A(xi)yi{y=x->~y+x;}B(cb,xi)yi|zi@c{z=A(x@c);y=[c,z,0]+A(1);}");
        due.make(1, 0);
        due.goes(0, 9, 1);
        due.goes(1, 9, 11);
        due.goes(0, 9, 3);
        due.goes(1, 2, 15);
        due.goes(1, 2, 18);
        due = Due.of("arguments", "A(xi,yi,cb)zi{z=c?x-y:y-x;}B(xi)zi{z=A(x*2,x,x>3)+A(1,A(x,1,T),U);}");
        due.make(1, 0);
        due.goes(5, 8);
        due.goes(2, -2);
    }

    private static void callsBegunAnew() {
        Due due = Due.of("begun anew", "A(xi)yi=40{y=x->'y+~x;}B(cb,xi)yi{y=A(x)^c;}");
        due.make(1, 0);
        due.goes(0, 1, 1);
        due.goes(0, 2, 2);
        due.goes(0, 3, 4);
        due.goes(1, 5, 5);
        due.goes(1, 6, 6);
        due.goes(0, 7, 12);
    }

    private static void callsOfSeveral() {
        Due due = Due.of("several", "A(xi)yi,zb=1{y=x->~y+x;z=!'z;}B(xi)ai,bb|ci,db{c,d=((A(x+1)));a,b=A(c);}");
        due.make(1, 0);
        due.goes(1, 2);
        due.out(0, 1, 0);
        due.flow(0, 'c', 2);
        due.flow(0, 'd', 0);
        due.goes(2, 7);
        due.out(0, 1, 1);
        due.flow(0, 'c', 5);
    }

    private static void failing() {
        String text = "A(xi)yi{y=7%x;}B(xi,cb)yi,zi{y=A(x)+1;z=c?9/x:x/1;}";
        Due due = Due.of("failing", text);
        due.make(1, 0);
        due.tick(0, 1 + text.indexOf('%'));
        due.put(0, 0, 2, true);
        due.tick(0, 0);
        due.out(0, 0, 2);
        text = "A(xi)yi{y=x/0;}B(xi,cb)yi,zi{z=9/(9/x);y=1;${?1=2/x>0;}{?1=3/x>0;};}";
        due = Due.of("failing", text);
        due.make(1, 0);
        due.tick(0, 1 + text.indexOf("/(9"));
        due.put(0, 0, 3, true);
        due.tick(0, 0);
        due.put(0, 0, 2, true);
        due.tick(0, 0);
        due.state(0, 0, 0);
        // the least place, not the one that is worked out first
        text = "A(xi)yi,zi{y=1/z;z=2/x;}";
        due = Due.of("failing", text);
        due.make(0, 0);
        due.tick(0, 1 + text.indexOf('/'));
        due.tick(1, -1);
        due.tick(-1, -1);
    }

    private static void failingChangesNothing() {
        String text = "A(xi)yi=3,zi{y=1->~y+1;z=6/x;${?x=0>1;}{};}";
        Due due = Due.of("changes nothing", text);
        due.make(0, 0);
        due.put(0, 0, 0, true);
        due.tick(0, 1 + text.indexOf('/'));
        due.out(0, 0, Due.THROWS);
        due.flow(0, 'x', Due.THROWS);
        due.ticks(0, 0);
        due.goes(2, 1);
        due.put(0, 0, 0, true);
        due.tick(0, 1 + text.indexOf('/'));
        due.out(0, 0, 1);
        due.out(0, 1, 3);
        due.flow(0, 'x', 2);
        due.state(0, 0, 0);
        due.ticks(0, 1);
        due.goes(3, 2);
        due.ticks(0, 2);
        text = "A(xi)yi{${y=1;?x=1>1;}{y=5/x;!x=2~0;?x=7>0;};}";
        due = Due.of("within states", text);
        due.make(0, 0);
        due.goes(0, 1);
        due.goes(1, 1);
        due.state(0, 0, 1);
        due.put(0, 0, 0, true);
        due.tick(0, 1 + text.indexOf('/'));
        due.goes(2, 1);
        due.state(0, 0, 0);
    }

    private static void strong() {
        Due due = Due.of("strong", "A(xi)yi{${y=10+x;!x=1>1;!x<2>2;}{y=20;!x=1>0;}{y=30;};}");
        due.make(0, 0);
        due.goes(5, 15);
        due.state(0, 0, 0);
        // the first one that is 1; at most one in a tick
        due.goes(1, 20);
        due.state(0, 0, 1);
        due.goes(1, 11);
        due.state(0, 0, 0);
        due.goes(0, 30);
        due.goes(1, 30);
        due.state(0, 0, 2);
        // strong transitions of a STATE that it is not in are not worked out
        String text = "A(xi)yi{${y=1;!x=9~1;}{y=2;!1/x=1~0;};}";
        due = Due.of("not worked out", text);
        due.make(0, 0);
        due.goes(0, 1);
        due.goes(9, 2);
        due.put(0, 0, 0, true);
        due.tick(0, 1 + text.indexOf('/'));
        due.goes(1, 1);
    }

    private static void weak() {
        Due due = Due.of("weak", "A(xi)yi{${y=10;?y=x>1;?x=3>2;}{y=20;!x=7>2;?T~0;}{y=30;?x=7~1;};}");
        due.make(0, 0);
        due.state(0, 0, 0);
        due.goes(10, 10);
        due.state(0, 0, 1);
        due.goes(0, 20);
        due.state(0, 0, 0);
        due.goes(3, 10);
        due.state(0, 0, 2);
        due.goes(7, 30);
        due.state(0, 0, 1);
        // strong to 2, then the weak one of 2
        due.goes(7, 30);
        due.state(0, 0, 1);
        due.state(0, 1, -1);
        due.state(0, -1, -1);
        due.state(1, 0, -1);
    }

    private static void statesRemember() {
        String counting = "B()yi{y=1->~y+1;}";
        // y counts by -> and ~, z by a call; x 1 goes on, x 2 goes anew, both from either STATE to the other
        String states = "A(xi)yi,zi{${y=1->~y+1;z=B();S}{y=101->~y+1;z=100+B();S};}";
        String strong = counting + states.replaceFirst("S", "!x=1~1;!x=2>1;").replaceFirst("S", "!x=1~0;!x=2>0;");
        Due due = Due.of("strong", strong);
        due.make(1, 0);
        int[][] goes = {{0, 1}, {0, 2}, {1, 101}, {0, 102}, {1, 3}, {2, 101}, {1, 4}, {1, 102}, {2, 1}};
        for (int[] one : goes) {
            due.goes(one);
            due.out(0, 1, one[1]);
        }
        String weak = counting + states.replaceFirst("S", "?x=1~1;?x=2>1;").replaceFirst("S", "?x=1~0;?x=2>0;");
        due = Due.of("weak", weak);
        due.make(1, 0);
        goes = new int[][] {{0, 1}, {1, 2}, {0, 101}, {1, 102}, {0, 3}, {2, 4}, {1, 101}, {1, 5}, {2, 102}, {0, 1}};
        for (int[] one : goes) {
            due.goes(one);
            due.out(0, 1, one[1]);
        }
        // as new: what the INSTANCES of its calls remember at first, too
        due = Due.of("calls in states", "B()yi=40{y='y+1;}A(cb)yi=0{${y=1->~y+1;?T>1;}{y='y-'y+B();?c>1;};}");
        due.make(1, 0);
        due.goes(0, 1);
        due.goes(0, 41);
        due.goes(0, 42);
        due.goes(1, 43);
        due.goes(0, 41);
        // anew into the STATE in which it is
        due = Due.of("into itself", counting + "A(cb)yi,zi{${y=1->~y+1;z=B();?c>0;};}"
                + "C(cb)yi,zi{${y=1->~y+1;z=B();!c>0;};}");
        due.make(1, 0);
        due.make(2, 1);
        int[] cs = {0, 0, 1, 0, 0};
        int[] weakly = {1, 2, 3, 1, 2};
        int[] strongly = {1, 2, 1, 2, 3};
        for (int k = 0; k < 5; k++) {
            due.goes(cs[k], weakly[k]);
            due.out(0, 1, weakly[k]);
            due.put(1, 0, cs[k], true);
            due.tick(1, 0);
            due.out(1, 0, strongly[k]);
            due.out(1, 1, strongly[k]);
        }
    }

    private static void automataAndLast() {
        // ' goes by all ticks, and is no STATE's own; two AUTOMATA, the second one hanging on the first one
        Due due = Due.of("automata", "A(cb)yi=5,zi{${y='y+1;!c>1;}{y='y*2;!c>0;};${z=0-y;?(y>20)>1;}{z=y;};}");
        due.make(0, 0);
        due.goes(0, 6);
        due.out(0, 1, -6);
        due.goes(1, 12);
        due.state(0, 0, 1);
        due.goes(0, 24);
        due.out(0, 1, -24);
        due.state(0, 1, 1);
        due.goes(1, 25);
        due.out(0, 1, 25);
        due.state(0, 0, 0);
        due.state(0, 1, 1);
        due.state(0, 2, -1);
    }

    private static void answersOfTicks() {
        Due due = Due.of("answers", "A(cb)yi|zi@c{y=1->2;z=7@c;}");
        due.make(0, 0);
        due.ticks(0, 0);
        due.ticks(1, -1);
        due.ticks(-1, -1);
        due.out(0, 0, Due.THROWS);
        due.flow(0, 'y', Due.THROWS);
        due.goes(1, 1);
        due.ticks(0, 1);
        due.out(0, 1, Due.THROWS);
        due.out(0, -1, Due.THROWS);
        due.out(1, 0, Due.THROWS);
        due.out(-1, 0, Due.THROWS);
        due.flow(0, 'z', 7);
        due.flow(0, 'c', 1);
        due.flow(0, 'a', Due.THROWS);
        due.flow(0, 'a' - 1, Due.THROWS);
        due.flow(0, 'z' + 1, Due.THROWS);
        due.flow(0, LEAST, Due.THROWS);
        due.flow(0, MOST, Due.THROWS);
        due.flow(1, 'y', Due.THROWS);
        due.put(0, 0, 0, true);
        due.flow(0, 'z', 7);
        due.tick(0, 0);
        due.flow(0, 'z', Due.THROWS);
        // a new INSTANCE where one was before is as new
        due.fits("A(cb)yi|zi@c{y=1->2;z=7@c;}");
        due.make(0, 0);
        due.out(0, 0, Due.THROWS);
        due.back(0, 0, false);
        due.put(0, 0, 1, true);
        due.save(0, 0, true);
        due.fits("A(cb)yi|zi@c{y=c?5:6;z=7@c;}");
        due.make(0, 0);
        due.back(0, 0, false);
        due.ticks(0, 0);
        due.goes(6);
        due.fits("A(cb)yi|zi@c{y=c?5:6;z=7@c;}");
        due.make(0, 0);
        due.ticks(0, 0);
    }

    private static void keeping() {
        Due due = Due.of("keeping", "B()yi{y=1->~y+1;}A(cb)yi,zi=50{y=B();z='z+(c?1:0);${?c~1;}{?c~0;};}");
        due.make(1, 0);
        due.make(1, 1);
        due.back(0, 0, false);
        due.save(0, 0, true);
        due.save(0, 4, false);
        due.save(0, -1, false);
        due.save(2, 0, false);
        due.save(-1, 0, false);
        due.goes(1, 1);
        due.goes(0, 2);
        due.save(0, 3, true);
        due.goes(1, 3);
        due.out(0, 1, 52);
        due.state(0, 0, 0);
        due.back(0, 3, true);
        due.ticks(0, 2);
        due.state(0, 0, 1);
        due.out(0, 0, 3);
        due.out(0, 1, 52);
        due.flow(0, 'z', 52);
        // INPUTS are not remembered: c is still 1
        due.tick(0, 0);
        due.out(0, 0, 3);
        due.out(0, 1, 52);
        due.ticks(0, 3);
        due.back(0, 0, true);
        due.ticks(0, 0);
        due.state(0, 0, 0);
        due.out(0, 0, 3);
        due.goes(0, 1);
        due.out(0, 1, 50);
        due.back(0, 3, true);
        due.save(0, 0, true);
        due.tick(0, 0);
        due.back(0, 0, true);
        due.goes(0, 3);
        due.back(0, 1, false);
        due.back(0, 4, false);
        due.back(0, -1, false);
        due.back(2, 0, false);
        due.back(-1, 0, false);
        due.back(1, 0, false);
        due.ticks(1, 0);
    }
}
