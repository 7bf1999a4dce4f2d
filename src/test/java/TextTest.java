/** Promises 1 to 4 and 18: a new object, type, module, fault, total; and FAULT 1. */
public final class TextTest {
    public static void main(String[] args) {
        newObject();
        typing();
        fullText();
        modules();
        oneAfterAnother();
        heads();
        bodies();
        parts();
        automata();
        deepest();
        Due.end();
    }

    private static void newObject() {
        Due due = new Due("new object");
        due.total(0, 0);
        due.total(1, 0);
        due.total(2, 0);
        due.total(3, -1);
        due.total(-1, -1);
        due.fault(0, 0);
        due.fault(1, 0);
        due.fault(2, -1);
        due.fault(-1, -1);
        due.node(0, 0, -1);
        due.make(0, -1);
        due.put(0, 0, 0, false);
        due.tick(0, -1);
        due.out(0, 0, Due.THROWS);
        due.flow(0, 'a', Due.THROWS);
        due.state(0, 0, -1);
        due.ticks(0, -1);
        due.save(0, 0, false);
        due.back(0, 0, false);
        due.prove(0, 0, 1, -1);
        due.alike(0, 0, 1, -1);
        due.run(-1, -1);
        due.run(-2, -1);
        due.run(0, -1);
        due.module(Due.THROWS);
        due.fault(0, 1);
        due.fault(1, 0);
    }

    private static void typing() {
        Due due = new Due("typing");
        due.type('A', 0, false);
        due.type('A', -1, false);
        due.type('A', 9, false);
        due.type(32, 1, false);
        due.type(127, 1, false);
        due.type(0x80, 1, false);
        due.type(0x4100, 2, false);
        due.type(0x0041, 2, false);
        due.type(-1L, 8, false);
        due.total(1, 0);
        // "A()y", then "yi{y=1;}": bytes above the n lowest ones do not count
        due.type(0x20FF00FF41282979L, 4, true);
        due.total(1, 4);
        due.type(0x697B793D313B7DL, 7, true);
        due.total(1, 11);
        due.module(1);
        due.total(1, 0);
        due.total(0, 1);
        due.node(0, 0, 'A');
        due.type(33, 1, true);
        due.type(126, 1, true);
        due.total(1, 2);
    }

    private static void fullText() {
        Due due = new Due("full text");
        for (int k = 0; k < 87; k++) {
            due.type(0x4141414141414141L, 8, true);
        }
        due.total(1, 696);
        due.type(0x4141414141L, 5, false);
        due.type(0x4141414141414141L, 8, false);
        due.total(1, 696);
        due.type(0x41414141, 4, true);
        due.total(1, 700);
        due.type('A', 1, false);
        due.total(1, 700);
        due.module(Due.THROWS);
        due.fault(0, 1);
        due.fault(1, 1);
        due.total(1, 0);
        due.fits("A()yi{y=" + "1+".repeat(344) + "12;}");
        due.make(0, 0);
        due.goes(356);
    }

    private static void modules() {
        Due due = Due.of("modules", "A()yi{y=1;}B()yi{y=2;}");
        due.total(0, 2);
        due.make(1, 0);
        due.tick(0, 0);
        due.faults(1, "A()yi{y=1;}B()yi{y=2`}");
        due.total(0, 2);
        due.total(2, 1);
        due.out(0, 0, 2);
        due.faults(2, "A()yi{y=`z;}");
        due.tick(0, 0);
        due.ticks(0, 2);
        due.fault(0, 2);
        due.fits("C()yi{y=3;}");
        due.total(0, 1);
        due.total(2, 0);
        due.tick(0, -1);
        due.out(0, 0, Due.THROWS);
        due.types("zz");
        due.fault(0, 0);
        due.module(Due.THROWS);
        due.node(0, 0, 'C');
        due.make(0, 0);
        StringBuilder eight = new StringBuilder();
        for (char name = 'A'; name <= 'H'; name++) {
            eight.append(name).append("()yi{y=1;}");
        }
        due.fits(eight.toString());
        due.total(0, 8);
        due.node(7, 0, 'H');
        due.faults(1, eight + "`A()yi{y=1;}");
        due.faults(1, eight + "`}");
    }

    /** Nothing of an earlier TEXT is left in a later one; three TEXTS in turn come behind each other in every way. */
    private static void oneAfterAnother() {
        Due due = new Due("one after another");
        for (int k = 0; k < 4; k++) {
            goFull(due);
            if (k % 2 == 0) {
                goSmall(due);
            }
            goOther(due);
        }
        for (int k = 0; k < 2; k++) {
            due.fits("A()yi=5,zi=6,ui=7{y='y;z='z;u='u;}");
            due.fits("A()yi=5,zi=6,ui=7{y='y;z='z;u='u;}");
            goOther(due);
        }
        due.faults(2, "A()yi{y='`y;}");
        due.faults(2, "A()ui{u=`c;}");
        due.faults(2, "A()yi{`${y=1;}{};}");
        due.faults(1, "A(cb)yi{y=1;${!((c`");
        due.faults(1, "A(xi)yi{y=x-`");
        due.fits("A(xi)yi{y=x->x;}");
        due.faults(1, "A(xi)yi{y=x-`");
        due.faults(1, "A(xi)yi{y=x`");
        due.faults(1, "A(xi)yi{y=-`");
        leftovers();
        // as much as a TEXT can hold, again and again
        due = new Due("full of automata");
        for (int k = 0; k < 5; k++) {
            due.faults(2, "A(cb)yi{" + "${!c>0;}{!c>0;};".repeat(42) + "y=`q;}");
        }
        due = new Due("full of equations");
        for (int k = 0; k < 3; k++) {
            due.faults(2, "A()yi{y=1;`" + "y=1;".repeat(170) + "}");
        }
    }

    /** What the first letter and the first STATE had in both TEXTS before is not left in a third one. */
    private static void leftovers() {
        Due due = new Due("leftovers");
        for (int k = 0; k < 2; k++) {
            due.fits("A()ai=5|bi,cb,di@c{a='a;b=~1;c=T;d=1;}");
        }
        due.faults(2, "A()ai{a='`a;}");
        String two = "C(xi,vb)ui,wb{u=x;w=v;}";
        for (int k = 0; k < 2; k++) {
            due.fits(two + "A()yi,zb{y,z=C(1,T);}");
        }
        due.faults(3, two + "A()yi{y=`C(1,T)+1;}");
        for (int k = 0; k < 2; k++) {
            due.fits("A()yi|ai{a=~1;y=1;}");
        }
        for (int k = 0; k < 2; k++) {
            due.fits("A()ai,bi,di{a=1;b=a;d=b;}");
        }
        for (int k = 0; k < 2; k++) {
            due.fits("A(cb)yi{${y=1->~y+1;?c>1;}{y=1->~y+1;?c>0;};}");
        }
        for (int k = 0; k < 2; k++) {
            due.fits("A(cb)yi,zi{y=1->~y+1;${z=1;?c>1;}{z=2;?c>0;};}");
            due.make(0, 0);
            due.goes(1, 1);
            due.goes(1, 2);
            due.goes(1, 3);
            due.fits("A(cb)yi,zi{y=1->~y+1;${z=1;?c>1;}{z=1->2;?c>0;};}");
            due.make(0, 0);
            due.goes(1, 1);
            due.goes(1, 2);
            due.out(0, 1, 1);
            due.goes(1, 3);
            due.goes(1, 4);
            due.out(0, 1, 1);
        }
    }

    private static void goFull(Due due) {
        due.fits("A(ab)yi=5,zi|ui,cb=1,di@c{d=1;${y=1;?a>1;}{y=2->~2;!a~0;};u=~1;z=1->u;c=a;}"
                + "B()yi,zi,ui{y=1;z=2;u=3;}C(xi)yi{y=x;}");
        due.counts(0, 1, 2, 3, 1, 7);
        due.make(0, 0);
        due.goes(1, 1);
        due.state(0, 0, 1);
        due.goes(0, 2);
        due.goes(1, 1);
    }

    private static void goSmall(Due due) {
        due.fits("A(xi)yi,ui|zi,di,cb{y=z+u;z=x+d;u=x;d=1;c=T;${}{!c>0;};}B(xi)yi{y=x;}");
        due.total(0, 2);
        due.counts(0, 1, 2, 3, 1, 1);
        due.make(0, 0);
        due.tick(0, 0);
        due.out(0, 0, 1);
        due.put(0, 0, 4, true);
        due.tick(0, 0);
        due.out(0, 0, 9);
        due.state(0, 0, 0);
        due.state(0, 1, -1);
    }

    private static void goOther(Due due) {
        due.fits("A(xi)di,yi,zb{d=y+1;y=x;${z=T;!d=3~1;}{z=U->~T;!U>0;?d=1>0;};}");
        due.counts(0, 1, 3, 0, 1, 3);
        due.make(0, 0);
        due.ticks(0, 0);
        due.goes(1, 2);
        due.out(0, 2, 1);
        due.goes(2, 3);
        due.out(0, 2, 0);
        due.goes(3, 4);
        due.out(0, 2, 1);
        due.ticks(0, 3);
    }

    private static void heads() {
        Due.bad(1, "`I()yi{y=1;}");
        Due.bad(1, "`a");
        Due.bad(1, "A`");
        Due.bad(1, "A(`,");
        Due.bad(1, "A(x`");
        Due.bad(1, "A(x`c)yi{y=1;}");
        Due.bad(1, "A(xi,`)yi{y=1;}");
        Due.bad(1, "A(xi`@c)yi{y=1;}");
        Due.bad(1, "A(xi`=1)yi{y=1;}");
        Due.bad(1, "A()`{}");
        Due.bad(1, "A()yi`@c{y=1;}");
        Due.bad(1, "A()yi=`{y=1;}");
        Due.bad(1, "A()yi=`-1{y=1;}");
        Due.bad(1, "A()yi=123456789`0{y=1;}");
        Due.bad(1, "A()yi|`{y=1;}");
        Due.bad(1, "A()yi|zi@`1{y=1;}");
        Due.bad(1, "A()yi|zi@!`!c{y=1;}");
        Due.bad(1, "A()yi|zi=1`@c{y=1;}");
        Due.bad(1, "A()yi|zi{y=1;z=1;}`|");
        Due.good("A()yi=123456789{y=1;}");
        Due.good("A(cb)yi|zi@!c=0,wb@c{y=1;z=1;w=T;}");
    }

    private static void bodies() {
        Due.bad(1, "A()yi{`1=y;}");
        Due.bad(1, "A()yi{y`;}");
        Due.bad(1, "A()yi{y,`=1;}");
        Due.bad(1, "A()yi{y=`;}");
        Due.bad(1, "A()yi{y=1`}");
        Due.bad(1, "A()yi{y=1;`;}");
        Due.bad(1, "A()yi{y=1;`");
        Due.bad(1, "A()yi{y=123456789`1;}");
        Due.bad(1, "A()yi{y=1`:2;}");
        Due.bad(1, "A()yi{y=1;}A()yi{y=1;}`z");
    }

    private static void parts() {
        Due.bad(1, "A(xi)yi{y=x`x;}");
        Due.bad(1, "A(xi)yi{y=x+`+x;}");
        Due.bad(1, "A(xi)yb{y=x=x`=x;}");
        Due.bad(1, "A(xi)yb{y=x<x`>x;}");
        Due.bad(1, "A(xi)yb{y=T|x<x`#x;}");
        Due.bad(1, "A(xi)yi{y=`->x;}");
        Due.bad(1, "A(xi)yi{y=x-`->x;}");
        Due.bad(1, "A(xi)yi{y=-`->x;}");
        Due.bad(1, "A(xi)yi{y=T?x`->x:x;}");
        Due.bad(1, "A(xi)yi{y=T?x`;}");
        Due.bad(1, "A(xi)yi{y=(x`;}");
        Due.bad(1, "A(xi)yi{y='`1;}");
        Due.bad(1, "A(xi)yi{y=[`1,x,x];}");
        Due.bad(1, "A(xi)yi{y=[x`;x,x];}");
        Due.bad(1, "A(xi)yi{y=[x,x`];}");
        Due.bad(1, "A(xi)yi{y=[x,x,x`,x];}");
        Due.bad(1, "A(xi)yi{y=A`;}");
        Due.bad(1, "A(xi)yi{y=A(x,`);}");
        Due.bad(1, "A(xi)yi{y=A()^`T;}");
        Due.bad(1, "A(xi)yi{y=(A())`^x;}");
        Due.bad(1, "A(xi)yi{y=x@`T;}");
        Due.bad(1, "A(xi)yi{y=`V;}");
        Due.bad(1, "A(xi)yi{y=x`\"1;}");
        Due.good("A(xi,cb)yi|zi@c{z=-x@c;y=x-1->x--x->x-(-x);}");
        Due.good("A(xb)yb{y=x=x|x&T?x:x?U:T;}");
        Due.good("A(xi)yb{y=1+2*3<x-4%5&x>x/6|U;}");
    }

    private static void automata() {
        Due.bad(1, "A()yi{$`;}");
        Due.bad(1, "A()yi{$`y=1;}");
        Due.bad(1, "A()yi{${y=1;}`}");
        Due.bad(1, "A()yi{${y=1;!T>0;`y=1;};}");
        Due.bad(1, "A()yi{${y=1;}{y=1;}{y=1;}{y=1;}{y=1;}{y=1;}`{y=1;};}");
        Due.good("A()yi{${y=1;}{y=1;}{y=1;}{y=1;}{y=1;}{y=1;};}");
        Due.bad(1, "A(cb)yi{${y=1`@c;};}");
        Due.bad(1, "A(cb)yi{${y=`[c,1,1];};}");
        Due.bad(1, "A(cb)yi{${y=1;!c`@c>0;};}");
        Due.bad(1, "A(cb)yi{${y=1;!`[c,c,c]>0;};}");
        Due.bad(1, "A(cb)yi{${y=1;!`~c>0;};}");
        Due.bad(1, "A(cb)yi{${y=1;!c`->c>0;};}");
        Due.bad(1, "A(cb)yi{${y=1;!(c`->c)>0;};}");
        Due.bad(1, "A(cb)yi{${y=1;!`B()>0;};}");
        Due.bad(1, "A(cb)yi{${y=1;!1>`x>0;};}");
        Due.bad(1, "A(cb)yi{${y=1;!(1>0)`;};}");
        Due.bad(1, "A(cb)yi{${y=1;!c>`c;};}");
        Due.bad(1, "A(cb)yi{${y=1;!c>0`0;};}");
        Due.bad(1, "A(cb)yi{${y=1;!c~`>0;};}");
        Due.bad(1, "A(cb)yi{${y=1;!c`;};}");
        Due.good("A(cb)yi{${y=1;!(1>0)>0;!(c?1>0:(1>0))~0;?c?c:c>0;?!c>0;!!c>0;};}");
        Due.good("A(cb)yi{${y=1->~y;};}");
    }

    /** Twenty may be open, one more may not. */
    private static void deepest() {
        String opened = "A()yi{y=" + "(".repeat(20);
        Due.good("A()yb{y=" + "!".repeat(20) + "T;}");
        Due.bad(1, "A()yb{y=" + "!".repeat(20) + "`!T;}");
        Due.good("A()yi{y=" + "-".repeat(20) + "1;}");
        Due.bad(1, "A()yi{y=" + "-".repeat(20) + "`-1;}");
        Due.good(opened + "1" + ")".repeat(20) + ";}");
        Due.bad(1, opened + "`(1;}");
        Due.bad(1, opened + "`[c,1,1];}");
        Due.bad(1, opened + "`~1;}");
        Due.bad(1, opened + "B`();}");
        Due.bad(1, opened + "1`->1;}");
        Due.bad(1, opened + "1`?1:1;}");
        Due.good("A()yi{y=" + "1->".repeat(20) + "1;}");
        Due.bad(1, "A()yi{y=" + "1->".repeat(20) + "1`->1;}");
        Due.good("A()yi{y=" + "T?1:".repeat(20) + "1;}");
        Due.bad(1, "A()yi{y=" + "T?1:".repeat(20) + "T`?1:1;}");
        // what is closed does not count any more
        Due.good("A()yi{y=" + "(1)+".repeat(40) + "1;}");
        Due.good("A()yi{y=" + "-1-".repeat(40) + "1;}");
        Due.bad(1, "A(cb)yi{y=1;${!" + "!".repeat(20) + "`!c>0;};}");
        Due.good("A(cb)yi{y=1;${!" + "!".repeat(20) + "c>0;};}");
    }
}
