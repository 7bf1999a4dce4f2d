/** Promises 3 and 4: the FAULTS 2 to 6 of the document's Terms; ` marks the place that is due. */
public final class FaultsTest {
    public static void main(String[] args) {
        names();
        lettersWithEquations();
        sorts();
        calls();
        clocks();
        clocksOfAutomata();
        firstValues();
        cycles();
        leastOfSeveral();
        Due.end();
    }

    private static void names() {
        Due.bad(2, "A()yi{y=1;}B()yi{y=1;}`A()yi{y=1;}");
        Due.bad(2, "A()yi{y=`A();}");
        Due.bad(2, "A()yi{y=`B();}B()yi{y=1;}");
        Due.bad(2, "B()yi{y=1;}A()yi{y=B()+`C();}");
        Due.bad(2, "A(xi,`xi)yi{y=1;}");
        Due.bad(2, "A(xi)yi,`xb{y=1;x=T;}");
        Due.bad(2, "A()yi|zi,`zi{y=1;z=1;}");
        Due.bad(2, "A()yi{y=`x;}");
        Due.bad(2, "A(xi)yi{y='`x;}");
        Due.bad(2, "A()yi{y='`x;}");
        Due.bad(2, "A()yi|zi{y='`z;z=1;}");
        Due.good("A()yi|zi=4{y='z;z=1;}");
        Due.bad(2, "A(ci)yi|zi@`c{y=1;z=1;}");
        Due.bad(2, "A()yi|zi@!`c{y=1;z=1;}");
        Due.bad(2, "A(ai)yi|zi@`a{y=1;z=1;}");
        Due.bad(2, "A(ci)yi{y=1@`c;}");
        Due.bad(2, "A(ci)yi{y=1@!`c;}");
        Due.bad(2, "A(ci)yi{y=[`c,1,1];}");
        Due.bad(2, "B()yi{y=1;}A(ci)yi{y=B()^`c;}");
        Due.bad(2, "B()yi{y=1;}A()yi{y=B()^`c;}");
        Due.bad(2, "A(cb)yi{${y=1;!`d>0;};}");
        Due.bad(2, "A(cb)yi{${y=1;!c>`1;};}");
        Due.bad(2, "A(cb)yi{${y=1;}{y=1;?c~`2;};}");
        Due.bad(2, "A(cb)yi{${y=1;}{y=1;?c~`9;};}");
        Due.good("A(cb)yi{${y=1;!c>1;}{y=1;?c~0;};}");
    }

    private static void lettersWithEquations() {
        Due.bad(2, "A(xi)yi{y=1;`x=1;}");
        Due.bad(2, "A()yi{y=1;`z=1;}");
        Due.bad(2, "A()`yi{}");
        Due.bad(2, "A()yi|`zi{y=1;}");
        Due.bad(2, "A()yi{y=1;`y=2;}");
        Due.bad(2, "B()ai,bi{a=1;b=1;}A()yi{y,`y=B();}");
        Due.bad(2, "A()yi{${y=1;`y=2;};}");
        Due.bad(2, "A()yi{y=1;${`y=1;}{y=1;};}");
        Due.bad(2, "A()yi{${y=1;}{y=1;};`y=1;}");
        Due.bad(2, "A()yi{${y=1;}{y=1;};${`y=1;};}");
        Due.bad(2, "A()yi{`${y=1;}{};}");
        Due.bad(2, "A()yi{`${}{y=1;}{y=1;};}");
        Due.bad(2, "A()yi,zi{`${y=1;z=1;}{y=1;};}");
        Due.good("A()yi,zi{${y=1;z=1;}{z=2;y=2;};}");
        Due.good("A()yi{y=1;${}{}{};}");
    }

    private static void sorts() {
        Due.bad(3, "A(xi,cb)yi{y=x+`c;}");
        Due.bad(3, "A(xi,cb)yi{y=`c*x;}");
        Due.bad(3, "A(xi,cb)yi{y=x-`(c);}");
        Due.bad(3, "A(xi,cb)yi{y=`((c))/x;}");
        Due.bad(3, "A(xi,cb)yi{y=x%`T;}");
        Due.bad(3, "A(xi,cb)yi{y=-`c;}");
        Due.bad(3, "A(xi,cb)yb{y=x<`c;}");
        Due.bad(3, "A(xi,cb)yb{y=`c>x;}");
        Due.bad(3, "A(xi,cb)yb{y=x=`c;}");
        Due.bad(3, "A(xi,cb)yb{y=c#`x;}");
        Due.bad(3, "A(xi,cb)yb{y=c&`x;}");
        Due.bad(3, "A(xi,cb)yb{y=`x|c;}");
        Due.bad(3, "A(xi,cb)yb{y=!`x;}");
        Due.bad(3, "A(xi,cb)yi{y=`x?1:2;}");
        Due.bad(3, "A(xi,cb)yi{y=c?x:`c;}");
        Due.bad(3, "A(xi,cb)yi{y=`c?c:c;}");
        Due.bad(3, "A(xi,cb)yi{y=x->`c;}");
        Due.bad(3, "A(xi,cb)yi{y=[c,x@c,`c@!c];}");
        Due.bad(3, "A(xi,cb)yi{y=`c;}");
        Due.bad(3, "A(xi,cb)yi{y=`T;}");
        Due.bad(3, "A(xi,cb)yb{y=`x;}");
        Due.bad(3, "A(xi)yb=1{y=1<2;${?`'y+1=2>0;};}");
        Due.bad(3, "A(xi)yb{y=T;${!`x>0;};}");
        Due.bad(3, "A(xi)yb{y=T;${?`(x+1)>0;};}");
        // what a part gives it gives whatever its parts are
        Due.bad(3, "A(cb)yi{y=(`c+1)*2;}");
        Due.bad(3, "A(cb)yi{y=1+(c?2:`c);}");
        Due.bad(3, "A(cb)yb{y=(`1&c)|c;}");
        Due.good("A(xi,cb)yb{y=x=x&(c=c)|(x#1)#c;}");
    }

    private static void calls() {
        String two = "B(xi,cb)ai,bb{a=x;b=c;}";
        String one = "C(xi)ai{a=x;}";
        Due.bad(3, one + "A()yi{y=1+`C();}");
        Due.bad(3, one + "A()yi{y=1+`C(1,2);}");
        Due.bad(3, one + "A()yi{y=1+`(C(1,2));}");
        Due.bad(3, one + "A()yi{y=C(`T);}");
        Due.bad(3, one + "A()yb{y=`C(1);}");
        Due.bad(3, two + "A()yi{y=`B(1,T);}");
        Due.bad(3, two + "A()yi{y=1+`B(1,T);}");
        Due.bad(3, two + "A()yi,zb{y,z=`-B(1,T);}");
        Due.bad(3, two + "A()yi,zb{y,z=`B(1,T)+1;}");
        Due.bad(3, two + "A()yi,zb{y,z=`((B(1,T))->1);}");
        Due.bad(3, two + "A()yb,zi{y,z=`B(1,T);}");
        Due.bad(3, two + "A()yi,zi{y,z=`(B(1,T));}");
        Due.bad(3, two + "A()yi,zb,wi{y,z,w=`B(1,T);}");
        Due.bad(3, two + "A()yi,zb{y,z=B(`T,T);}");
        Due.bad(3, two + "A()yi,zb{y,z=B(1,`1);}");
        Due.bad(3, two + "A()yi,zb{y,z=`1;}");
        Due.bad(3, one + "A()yi,zi{y,z=`C(1);}");
        Due.good(two + "A()yi,zb{y,z=B(1,T);}");
        Due.good(two + "A()yi,zb{y,z=((B(1,T)));}");
        Due.good(two + "A()yi,zb{${y,z=B(1,T);}{y=1;z=U;};}");
        Due.good(one + "A()yi{y=C(C(1)+C(2))->C(3);}");
    }

    private static void clocks() {
        Due.bad(4, "A()yi|`cb@d,db@c{y=1;c=T;d=T;}");
        Due.bad(4, "A()yi|`cb@c{y=1;c=T;}");
        Due.bad(4, "A()yi|`ab@a{y=1;a=T;}");
        Due.bad(4, "A()yi|eb@d,`cb@d,db@!c{y=1;c=T;d=T;e=T;}");
        Due.bad(4, "A(xi,cb)yi|zi@c{z=`x;y=1;}");
        Due.bad(4, "A(xi,cb)yi|zi@c{z=`x@!c;y=1;}");
        Due.bad(4, "A(xi,cb)yi{y=`x@c;}");
        Due.bad(4, "A(xi,cb)yi{y=`(x)@c;}");
        Due.bad(4, "A(xi,cb)yi|zi@c{z=x@c;y=x+`z;}");
        Due.bad(4, "A(xi,cb)yi|zi@c{z=x@c;y=`1+(z);}");
        Due.bad(4, "A(xi,cb)yi|zi@c{z=1+x@c+`x;y=1;}");
        Due.bad(4, "A(xi,cb)yi|zi@c{z=x@c;y=[c,`x,1];}");
        Due.bad(4, "A(xi,cb)yi|zi@c{z=x@c;y=[c,z,`z];}");
        Due.bad(4, "A(xi,cb)yi|zi@c{z=x@c;y=[c,1,2]+`z;}");
        Due.bad(4, "A(xi,cb)yi|zi@c=0{z=x@c;y=`1->'z;}");
        Due.bad(4, "A(xi,cb)yi|db@c,zi@d{d=T;z=`x@d;y=1;}");
        Due.good("A(xi,cb)yi|db@c,zi@d{d=T;z=x@c@d;y=1;}");
        Due.good("A(xi,cb)yi|db@c,zi@d{d=T;z=1@d;y=[c,[d,z,5],x@!c];}");
        String two = "B(xi,ci)ai,bi{a=x;b=c;}";
        Due.bad(4, two + "A(cb)yi|zi@c{y,`z=B(1,2);}");
        Due.bad(4, two + "A(cb)yi|zi@c,wi@c{z,w=`B(1,2);y=1;}");
        Due.bad(4, two + "A(cb,xi)yi,ui|zi@c{y,u=B(x,`z);z=1;}");
        Due.good(two + "A(cb,xi)yi|zi@c,wi@c{z,w=B(1,x@c);y=1;}");
        String one = "C(xi)ai{a=x;}";
        Due.bad(4, one + "A(cb,xi)yi|db@c{d=T;y=C(x)^`d;}");
        Due.bad(4, one + "A(cb,xi)yi|db@c{d=T;y=`C(1)^d;}");
        Due.bad(4, one + "A(cb,xi)yi|zi@c{z=`C(1);y=1;}");
        Due.good(one + "A(cb,xi)yi|zi@c{z=C(1)@c;y=1;}");
        Due.bad(4, "C(xi)yi{y=x;}A(cb,xi)yi|ab@c{a=T;y=C(x)^`a;}");
        Due.good(one + "A(cb,xi)yi|db@c,zi@c{d=T;z=C(1)^d;y=1;}");
    }

    private static void clocksOfAutomata() {
        Due.bad(4, "A(cb)yi|zi@c{y=1;${`z=1;};}");
        Due.bad(4, "A(cb)yi|zi@c{z=1;${y=`z;};}");
        Due.bad(4, "A(cb)yi|zi@c=0{z=1;${y=`'z;};}");
        Due.bad(4, "A(cb)yi|zi@c=0{z=1;${y=1;?1='`z>0;};}");
        Due.bad(4, "A(cb)yi|db@c{d=T;${y=1;?`d>0;};}");
        Due.bad(4, "A(cb)yi|db@c{d=T;${y=1;!(T|`d)>0;};}");
    }

    private static void firstValues() {
        Due.bad(5, "A(xi)yi{`y=~x;}");
        Due.bad(5, "A(xi)yi|zi{z=~x;`y=z+1;}");
        Due.bad(5, "A(xi)yi|zi=1{y=1;`z=~x;}");
        Due.bad(5, "A(xi)yi{y=1->~`~x;}");
        Due.bad(5, "A(xi)yi{y=1->~`(~x);}");
        Due.bad(5, "A(xi)yi|zi{z=~x;y=1->~`z;}");
        Due.bad(5, "A(xi)yi{y=1->`2+~x->3;}");
        Due.bad(5, "A(xi)yi|zi{z=`~x->1;y=1;}");
        Due.bad(5, "A(xi)yi{`y=~x->1;}");
        Due.bad(5, "A(xb)yi|zi{z=`~x?1:2;y=1;}");
        Due.bad(5, "A(xb)yi|zb{z=~x;y=1->1+(`z?1:2);}");
        Due.bad(5, "A(xb)yi|zb,wi@`z{z=~x;w=1;y=1;}");
        Due.bad(5, "A(xb)yi|ab,wi@`a{a=~x;w=1;y=1;}");
        Due.bad(5, "A(xb)yi|zb{z=~x;y=1->[`z,1,2];}");
        Due.bad(5, "A(xb)yi|zb,wi{z=~x;w=1->~`[z,1@z,2];y=1;}");
        String one = "C(xb)ai{a=1;}";
        Due.bad(5, one + "A(xb)yi{y=C(`~x);}");
        Due.bad(5, one + "A(xb)yi|zb{z=~x;y=1->C(`z);}");
        Due.bad(5, "C(xi,zi)ai{a=1;}A(xi)yi{y=C(x,`~x);}");
        Due.bad(5, "A(xi)yi|ai{a=~x;`y=a;}");
        Due.bad(5, one + "A(xb)yi|zb{z=~x;y=1->C(x)^`z;}");
        Due.bad(5, "A(xb)yi|zb{z=~x;${y=1;!`z>0;};}");
        Due.bad(5, "A(xb)yi|zb{z=~x;${y=1;?`T|z>0;};}");
        Due.bad(5, "A(xb)yi|zi{y=1;${z=`~1;};}");
        Due.bad(5, "A(xb)yi|zi{y=1;${z=1;}{z=`2+~1;};}");
        Due.bad(5, "A(xb)yi,wi|zi{`w=y;y=z;z=~1;}");
        Due.good("A(xi)yi|zi{z=~x;y=1->z;}");
        Due.good("A(xi)yi|zi{z=~x+1;y=1->z+z;}");
        Due.good("A(xi)yi=3|zi{z=~x;y=1->'y+z;}");
        Due.good(one + "A(xb)yi{y=C(x)+C(T->~x);}");
        Due.good("A(xb)yi|zi{y=1;z=x?~1:2;}");
    }

    private static void cycles() {
        Due.bad(6, "A()`yi{y=y;}");
        Due.bad(6, "A()`ai{a=a;}");
        Due.bad(6, "B()yi{y=1;}A()`ai{a=a;}");
        Due.bad(6, "A()`yi{y=1->y;}");
        Due.bad(6, "A()`yi,zi{y=z;z=y+1;}");
        Due.bad(6, "A()wi,`yi,zi{w=z;y=z;z=y+1;}");
        Due.bad(6, "A(cb)yi,`zi{y=1;z=1->~z+z;}");
        Due.good("A()yi,zi{y=0->~z;z=y+1;}");
        Due.good("A()yi=0,zi{y=1+'y;z=y;}");
        Due.bad(6, "C(xi)ai{a=1;}A()`yi{y=C(y);}");
        Due.bad(6, "C(xi)ai{a=0->~x;}A()`yi{y=C(y);}");
        Due.good("C(xi)ai{a=x;}A()yi{y=0->~C(y);}");
        Due.bad(6, "C()ai{a=1;}A()`yb{y=C()^y=1;}");
        Due.bad(6, "C()ai{a=1;}A()`yi,zb{y=C()^z;z=y=1;}");
        Due.bad(6, "C()ai,bi{a=1;b=2;}A()yi,`zi|cb{y,z=C()^c;c=z=1;}");
        Due.bad(6, "A()yi|`cb,zi@c{y=1;c=[c,T,U];z=1;}");
        Due.bad(6, "A()`yi|cb,zi@c{y=[c,z,1];c=y=1;z=1;}");
        Due.bad(6, "A()`yi|cb,zi@c{y=[c,z,1];c=1=y;z=1;}");
        Due.bad(6, "A()yi|`cb,zi@c{y=1;c=[c,z>0,T];z=1;}");
        Due.bad(6, "A(xb)`yb{${y=x;!y>0;};}");
        Due.bad(6, "A(xb)`yb{${y=x;!y>0;!x>0;};}");
        Due.bad(6, "A(xb)`yb{${y=x;!x>0;}{y=x;!x>0;!y>0;};}");
        Due.good("A(xb)yb=0{${y=x;!'y>0;};}");
        Due.good("A(xb)yb{${y=x;?y>0;};}");
        Due.bad(6, "A(xb)`yb,zb{${y=z;z=x;}{y=x;z=y;};}");
        Due.good("A(xb)yb,zb{${y=z;z=x;}{y=z;z=!x;};}");
        Due.bad(6, "A(xb)`yb,zb{z=y;${y=x;}{y=x;!z>0;};}");
        Due.bad(6, "A(xb)yb|`zb{y=x;${z=x;!z>0;};}");
    }

    private static void leastOfSeveral() {
        Due.bad(1, "A()yi{y=q;y=1`");
        Due.bad(2, "A()yb,zi{y=1;z=`q;}");
        Due.bad(2, "A()yb{y=1;}B()yi{y=`q;}");
        Due.bad(3, "A()yi{y=y;}B()yi{y=`T;}");
        Due.bad(3, "A()yi{y=1;}B()yi,zb{y=`T;z=1;}");
        Due.bad(4, "A(cb)yi{y=~1+y;}B(cb)yi{y=`1@c;}");
        Due.bad(5, "A()yi{y=y;}B()yi{`y=~1;}");
        Due.bad(6, "A()yi{y=1;}B()`yi,zi{z=z;y=y;}");
    }
}
