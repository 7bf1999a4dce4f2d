/**
 * The FAULTS 2 to 6, clause by clause: a TEXT that has just this FAULT, and the TEXT beside it that has none.
 * ` marks the place that is due.
 */
public final class FaultEdgesTest {
    private static final String ONE = "B(xi)ui{u=x;}";
    private static final String TWO = "C(xi,vb)ui,wb{u=x;w=v;}";

    public static void main(String[] args) {
        nodesThatAreTold();
        lettersThatAreTold();
        lettersOfTruths();
        equationsOfALetter();
        equationsInStates();
        sortsOfOperators();
        sortsOfParts();
        argumentsOfCalls();
        outputsOfCalls();
        whatPartsGive();
        rings();
        clocksOfParts();
        clocksOfCalls();
        clocksOfEquations();
        clocksOfAutomata();
        partsWithoutFirstValues();
        whereFirstValuesMustBe();
        cycles();
        cyclesByOthers();
        leastNumberThenLeastPlace();
        Due.end();
    }

    private static void pair(int kind, String bad, String good) {
        Due.bad(kind, bad);
        Due.good(good);
    }

    /** "a NODE told before; one that is not told ahead of the one in which it is used". */
    private static void nodesThatAreTold() {
        pair(2, "A()yi{y=1;}`A()yi{y=1;}", "A()yi{y=1;}B()yi{y=1;}");
        pair(2, "A()yi{y=1;}B()yi{y=1;}`A()yi{y=B();}", "A()yi{y=1;}B()yi{y=1;}C()yi{y=B();}");
        pair(2, "A()yi{y=`A();}", "B()yi{y=1;}A()yi{y=B();}");
        pair(2, "A()yi{y=`B();}B()yi{y=1;}", "B()yi{y=1;}A()yi{y=B();}");
        pair(2, "A()yi{y=1;}B()yi{y=A()+`B();}", "A()yi{y=1;}B()yi{y=A()+A();}");
        pair(2, "A()yi{y=1;}C()yi{${y=`B();};}", "A()yi{y=1;}C()yi{${y=A();};}");
    }

    /** "a letter told twice in a NODE (the first telling counts); one that is not told; ' of one without LAST". */
    private static void lettersThatAreTold() {
        pair(2, "A(xi,`xi)yi{y=x;}", "A(xi,zi)yi{y=x;}");
        pair(2, "A(xi)yi,`yi{y=x;}", "A(xi)yi,zi{y=x;z=1;}");
        pair(2, "A(xi)yi|zi,`zi{y=x;z=1;}", "A(xi)yi|zi,wi{y=x;z=1;w=1;}");
        pair(2, "A(xi)yi|`xi{y=x;}", "A(xi)yi|zi{y=x;z=1;}");
        pair(2, "A(yi)`yi{y=1;}", "A(xi)yi{y=1;}B(xi)yi{y=1;}");
        // the second telling tells nothing: no CLOCK, no LAST, no TYPE, no OUTPUT that has no equation
        Due.bad(2, "A(cb)yi|zi@c,`ci{y=1;z=1;}");
        Due.bad(2, "A(cb)yi,`yi{y=q;}");
        Due.bad(2, "A()yi|zi,`zi=1,wi{y='z;z=1;w=q;}");
        Due.bad(2, "A()yi|zi,`zi@q{y=1;z=1;}");
        pair(2, "A(xi)yi{y=`z;}", "A(xi)yi{y=x;}");
        pair(2, "A(xi)yi{y=1;}B()yi{y=`x;}", "A(xi)yi{y=1;}B(xi)yi{y=x;}");
        pair(2, "A(xi)yi{y=1->~`z;}", "A(xi)yi{y=1->~x;}");
        pair(2, "A(xi)yi{y='`y;}", "A(xi)yi=0{y='y;}");
        pair(2, "A(xi)yi=0{y='`x;}", "A(xi)yi=0{y=x+'y;}");
        pair(2, "A(xi)yi|zi{y='`z;z=1;}", "A(xi)yi|zi=0{y='z;z=1;}");
        pair(2, "A(xi)yi=1{y=1;}B()yi{y='`y;}", "A(xi)yi{y=1;}B()yi=1{y='y;}");
    }

    /** "a letter at @ (also of a CLOCK), in [ ] ahead of the X, or behind ^ that is no b". */
    private static void lettersOfTruths() {
        pair(2, "A(ci)yi|zi@`c{y=1;z=1;}", "A(cb)yi|zi@c{y=1;z=1;}");
        pair(2, "A(ci)yi|zi@!`c{y=1;z=1;}", "A(cb)yi|zi@!c{y=1;z=1;}");
        pair(2, "A(cb)yi|zi@`d{y=1;z=1;}", "A(cb,db)yi|zi@d{y=1;z=1;}");
        pair(2, "A(cb,xi)yi|zi@c{y=1;z=1@`x;}", "A(cb,xi)yi|zi@c{y=1;z=1@c;}");
        pair(2, "A(cb,xi)yi|zi@!c{y=1;z=1@!`x;}", "A(cb,xi)yi|zi@!c{y=1;z=1@!c;}");
        pair(2, "A(cb,xi)yi{y=[`x,1,1];}", "A(cb,xi)yi{y=[c,1,1];}");
        pair(2, "A(cb,xi)yi{y=[`d,1,1];}", "A(cb,xi,db)yi{y=[d,1,1];}");
        pair(2, ONE + "A(cb,xi)yi{y=B(x)^`x;}", ONE + "A(cb,xi)yi{y=B(x)^c;}");
        pair(2, ONE + "A(cb,xi)yi{y=B(x)^`d;}", ONE + "A(cb,xi,db)yi{y=B(x)^d;}");
        pair(2, ONE + "A(cb,xi)yi{${y=B(x)^`x;};}", ONE + "A(cb,xi)yi{${y=B(x)^c;};}");
    }

    /** "an INPUT that has an equation, a letter that has two ..; an OUTPUT or LOCAL that has none". */
    private static void equationsOfALetter() {
        pair(2, "A(xi)yi{`x=1;y=1;}", "A(xi)yi|zi{z=1;y=1;}");
        pair(2, "A(xi)yi{y=1;${`x=1;};}", "A(xi)yi|zi{y=1;${z=1;};}");
        pair(2, TWO + "A(xi)yb{`x,y=C(1,T);}", TWO + "A(xi)yb|zi{z,y=C(1,T);}");
        pair(2, TWO + "A()yi,zb{y,`y=C(1,T);z=T;}", TWO + "A()yi,zb{y,z=C(1,T);}");
        pair(2, "A()yi,zi{y=1;`y=1;z=1;}", "A()yi,zi{y=1;z=1;}");
        pair(2, "A()yi,zi{${y=1;z=1;`y=1;};}", "A()yi,zi{${y=1;z=1;};}");
        pair(2, "A()yi{y=1;${`y=1;};}", "A()yi,zi{y=1;${z=1;};}");
        pair(2, "A()yi{${y=1;};`y=1;}", "A()yi,zi{${y=1;};z=1;}");
        pair(2, "A()yi{${y=1;};${`y=1;};}", "A()yi,zi{${y=1;};${z=1;};}");
        pair(2, "A()yi,`zi{y=1;}", "A()yi,zi{y=1;z=1;}");
        pair(2, "A()yi|`zi{y=1;}", "A()yi|zi{y=1;z=1;}");
        pair(2, "A()`yi{}", "A()yi{y=1;}");
        pair(2, "A()yi{y=1;`z=1;}", "A()yi|zi{y=1;z=1;}");
        // an INPUT needs none, and letters of another NODE are others
        Due.good("A(xi)yi{y=1;}B(yi)xi{x=1;}");
    }

    /** "in one STATE of an AUTOMATON, but not in another one (at the $); a STATE's digit that there is not". */
    private static void equationsInStates() {
        pair(2, "A()yi{`${y=1;}{};}", "A()yi{${y=1;}{y=2;};}");
        pair(2, "A()yi{`${}{y=1;};}", "A()yi{${y=1;};}");
        pair(2, "A()yi,zi{`${y=1;z=1;}{z=1;y=1;}{z=1;};}", "A()yi,zi{${y=1;z=1;}{z=1;y=1;}{y=1;z=1;};}");
        pair(2, "A()yi,zi{`${y=1;}{z=1;};}", "A()yi,zi{${y=1;};${z=1;};}");
        pair(2, "A()yi{${y=1;};`${}{z=1;};}", "A()yi|zi{${y=1;};${z=1;}{z=1;};}");
        for (char c = 'a'; c <= 'z'; c++) {
            pair(2, "A()" + c + "i{`${" + c + "=1;}{};}", "A()" + c + "i{${" + c + "=1;}{" + c + "=1;};}");
        }
        pair(2, "A()yi{y=1;${!T>`1;};}", "A()yi{y=1;${!T>0;};}");
        pair(2, "A()yi{y=1;${?T~`1;};}", "A()yi{y=1;${?T~0;};}");
        pair(2, "A()yi{y=1;${}{?T~`2;};}", "A()yi{y=1;${}{?T~1;};}");
        // the STATES of its own AUTOMATON
        pair(2, "A()yi{y=1;${}{};${?T~`1;};}", "A()yi{y=1;${?T~1;}{};${};}");
        pair(2, "A()yi{y=1;${}{}{}{}{}{!T>`6;};}", "A()yi{y=1;${}{}{}{}{}{!T>5;};}");
    }

    /** "+ - * / % < > and - of i give i, or b (of < >); = # of two alike b; & | ! of b b". */
    private static void sortsOfOperators() {
        for (char op : "+-*/%".toCharArray()) {
            pair(3, "A(cb)yi{y=`c" + op + "1;}", "A(ci)yi{y=c" + op + "1;}");
            pair(3, "A(cb)yi{y=1" + op + "`c;}", "A(ci)yi{y=1" + op + "c;}");
            pair(3, "A(xi)yb{y=`x" + op + "1;}", "A(xi)yi{y=x" + op + "1;}");
        }
        for (char op : "<>".toCharArray()) {
            pair(3, "A(cb)yb{y=`c" + op + "1;}", "A(ci)yb{y=c" + op + "1;}");
            pair(3, "A(cb)yb{y=1" + op + "`c;}", "A(ci)yb{y=1" + op + "c;}");
            pair(3, "A(xi)yi{y=`x" + op + "1;}", "A(xi)yb{y=x" + op + "1;}");
        }
        for (char op : "=#".toCharArray()) {
            pair(3, "A(cb)yb{y=c" + op + "`1;}", "A(cb)yb{y=c" + op + "T;}");
            pair(3, "A(cb)yb{y=1" + op + "`c;}", "A(ci)yb{y=1" + op + "c;}");
            pair(3, "A(xi)yi{y=`x" + op + "1;}", "A(xi)yb{y=x" + op + "1;}");
        }
        for (char op : "&|".toCharArray()) {
            pair(3, "A(cb)yb{y=c" + op + "`1;}", "A(cb)yb{y=c" + op + "T;}");
            pair(3, "A(cb)yb{y=`1" + op + "c;}", "A(cb)yb{y=U" + op + "c;}");
            pair(3, "A(cb)yi{y=`c" + op + "T;}", "A(cb)yb{y=c" + op + "T;}");
        }
        pair(3, "A(cb)yi{y=-`c;}", "A(cb)yi{y=-1;}");
        pair(3, "A(cb)yb{y=`-1;}", "A(cb)yi{y=-1;}");
        pair(3, "A(cb)yb{y=!`1;}", "A(cb)yb{y=!c;}");
        pair(3, "A(cb)yi{y=`!c;}", "A(cb)yb{y=!c;}");
    }

    /** "? of a b and two alike; -> of two alike; ~ and @ any; [ ] of two alike; .. transitions a b". */
    private static void sortsOfParts() {
        pair(3, "A(xi)yi{y=`x?1:2;}", "A(xb)yi{y=x?1:2;}");
        pair(3, "A(xb)yi{y=x?1:`T;}", "A(xb)yb{y=x?U:T;}");
        pair(3, "A(xb)yb{y=x?T:`1;}", "A(xb)yi{y=x?0:1;}");
        pair(3, "A(xb)yi{y=1->`x;}", "A(xi)yi{y=1->x;}");
        pair(3, "A(xb)yb{y=T->`1;}", "A(xb)yb{y=T->x;}");
        pair(3, "A(xb)yi{y=[x,1,`T];}", "A(xb)yi{y=[x,1,2];}");
        pair(3, "A(xb)yb{y=[x,T,`2];}", "A(xb)yb{y=[x,T,U];}");
        pair(3, "A(xb)yi|zi{y=1;z=`~x;}", "A(xb)yi|zb{y=1;z=~x;}");
        pair(3, "A(xb)yi|zb{y=1;z=`~1;}", "A(xb)yi|zi{y=1;z=~1;}");
        pair(3, "A(xb)yi|zi@x{y=1;z=`x@x;}", "A(xb)yi|zb@x{y=1;z=x@x;}");
        pair(3, "A(xb)yi|zb@x{y=1;z=`1@x;}", "A(xb)yi|zi@x{y=1;z=1@x;}");
        pair(3, "A(xb)yi=1,zb{y=1;z=`'y;}", "A(xb)yi=1,zi{y=1;z='y;}");
        pair(3, "A(xi)yi{y=1;${!`x>0;};}", "A(xb)yi{y=1;${!x>0;};}");
        pair(3, "A(xi)yi{y=1;${?`1~0;};}", "A(xi)yi{y=1;${?T~0;};}");
        pair(3, "A(xb)yi{${y=`x;};}", "A(xi)yi{${y=x;};}");
    }

    /** "a call of as many as the NODE has INPUTS (else where it begins), of their types". */
    private static void argumentsOfCalls() {
        String none = "D()ui{u=1;}";
        pair(3, none + "A()yi{y=1+`D(1);}", none + "A()yi{y=1+D();}");
        pair(3, ONE + "A()yi{y=1+`B();}", ONE + "A()yi{y=1+B(1);}");
        pair(3, ONE + "A()yi{y=1+`B(1,1);}", ONE + "A()yi{y=1+B(1);}");
        pair(3, ONE + "A()yi{y=1+B(`T);}", ONE + "A()yi{y=1+B(1);}");
        pair(3, TWO + "A()yi,zb{y,z=`C(1);}", TWO + "A()yi,zb{y,z=C(1,T);}");
        pair(3, TWO + "A()yi,zb{y,z=`C(1,T,1);}", TWO + "A()yi,zb{y,z=C(1,U);}");
        pair(3, TWO + "A()yi,zb{y,z=C(`T,T);}", TWO + "A()yi,zb{y,z=C(2,T);}");
        pair(3, TWO + "A()yi,zb{y,z=C(1,`1);}", TWO + "A()yi,zb{y,z=C(1,1<1);}");
        // of too many, those that the NODE has are judged, too; of too few likewise
        Due.bad(3, ONE + "A(cb)yi{y=1+`B(c,1);}");
        Due.bad(3, TWO + "A()yi,zb{y,z=`C(T);}");
        pair(3, ONE + "A()yi{y=1+B(1+`T);}", ONE + "A()yi{y=1+B(1+1);}");
    }

    /** "it must have one OUTPUT alone, but as the whole X of an EQUATION with as many letters as it has OUTPUTS". */
    private static void outputsOfCalls() {
        pair(3, TWO + "A()yi{y=`C(1,T);}", TWO + "A()yi,zb{y,z=C(1,T);}");
        pair(3, TWO + "A()yi,zb,vi{y,z,v=`C(1,T);}", TWO + "A()yi,zb,vi{y,z=C(1,T);v=1;}");
        pair(3, ONE + "A()yi,zi{y,z=`B(1);}", ONE + "A()yi,zi{y=B(1);z=B(2);}");
        pair(3, TWO + "A()yi,zb{y,z=`-C(1,T);}", TWO + "A()yi,zb{y,z=(C(1,T));}");
        pair(3, TWO + "A()yi,zb{y,z=`C(1,T)+1;}", TWO + "A()yi,zb{y,z=((C(1,T)));}");
        pair(3, TWO + "A()yi,zb{y,z=`(1)->C(1,T);}", TWO + "A(vb)yi,zb{y,z=C(1,T)^v;}");
        pair(3, TWO + "A()yi{y=1+`C(1,T);}", ONE + "A()yi{y=1+B(1);}");
        pair(3, TWO + "A()yi{y=1+`(C(1,T));}", ONE + "A()yi{y=1+(B(1));}");
        pair(3, TWO + ONE + "A()yi{y=B(`C(1,T));}", TWO + ONE + "A()yi{y=B(B(1));}");
        pair(3, TWO + "A()yb,zi{y,z=`C(1,T);}", TWO + "A()yi,zb{y,z=C(1,T);}");
        pair(3, TWO + "A()yi,zi{y,z=`((C(1,T)));}", TWO + "A()yi,zb{y,z=((C(1,T)));}");
        pair(3, TWO + "A()yi,zb{y,z=`1;}", TWO + "A()yi,zb{y=1;z=T;}");
        pair(3, TWO + "A()yi,zb{${y,z=`(1+1);};}", TWO + "A()yi,zb{${y,z=(C(1,T));};}");
        pair(3, ONE + "A()yb{y=`B(1);}", ONE + "A()yi{y=B(1);}");
    }

    /** "What a part gives it gives whatever its parts are: ? what its second one gives, -> and [ ] their first X". */
    private static void whatPartsGive() {
        Due.bad(3, "A(xi)yi{y=1+`(x<T);}");
        Due.bad(3, "A(xi)yi{y=(`T+1)*x;}");
        Due.bad(3, "A(xi,cb)yi{y=1+(c?x:`T);}");
        Due.bad(3, "A(xi,cb)yi{y=1+`(c?T:x);}");
        Due.bad(3, "A(xi,cb)yi{y=1+(x->`T);}");
        Due.bad(3, "A(xi,cb)yi{y=1+`(T->x);}");
        Due.bad(3, "A(xi,cb)yi{y=1+[c,1,`T];}");
        Due.bad(3, "A(xi,cb)yi{y=1+`[c,T,1];}");
        Due.bad(3, "A(xi,cb)yi|zb{y=1;z=T&~(T&`x);}");
        Due.bad(3, ONE + "A(cb)yi{y=1+B(`c)*2;}");
        Due.bad(3, TWO + "A(cb)yi{y=1+`C(1,T);}");
        Due.bad(3, TWO + "A(cb)yb{y=T&`C(1,T);}");
    }

    /** "each letter on a ring of these is one at the place where it is told". */
    private static void rings() {
        pair(4, "A()yi|`cb@c{y=1;c=T;}", "A(db)yi|cb@d{y=1;c=T;}");
        pair(4, "A()yi|`cb@!d,db@c{y=1;c=T;d=T;}", "A(eb)yi|cb@!d,db@e{y=1;c=T;d=T;}");
        // in a NODE that is not the first one, too
        pair(4, ONE + "A()yi|zb,`wb@w{y=1;z=T;w=T;}", ONE + "A()yi|zb,wb@z{y=1;z=T;w=T;}");
        pair(4, ONE + TWO + "A()yi|`sb@!t,tb@s{y=1;s=T;t=T;}", ONE + TWO + "A()yi|sb@!t,tb{y=1;s=T;t=T;}");
        pair(4, "A()yi|ab@c,`cb@d,db@e,eb@c{y=1;a=T;c=T;d=T;e=T;}",
                "A()yi|ab@c,cb@d,db@e,eb{y=1;a=T;c=T;d=T;e=T;}");
        Due.bad(4, "A()yi|zi@d,ab@c,`db@d,cb@d{y=1;z=1;a=T;c=T;d=T;}");
        // as long as a ring can be
        StringBuilder ring = new StringBuilder();
        StringBuilder body = new StringBuilder("{y=1;");
        for (char c = 'a'; c <= 'x'; c++) {
            ring.append(c == 'a' ? "|" : ",").append(c).append("b@").append((char) (c + 1));
            body.append(c).append("=T;");
        }
        body.append("z=T;}");
        String row = ring.toString().replace("@y", "@z");
        Due.bad(4, "A()yi" + row.replace("|a", "|`a") + ",zb@a" + body);
        Due.good("A()yi" + row + ",zb" + body);
        Due.bad(4, "A()yi" + row.replace(",xb", ",`xb") + ",zb@x" + body);
    }

    /** "the first one of these that is not FREE is on, and the others that are not must be on it, too". */
    private static void clocksOfParts() {
        String head = "A(xi,cb)yi|zi@c,wi@!c{w=1;";
        pair(4, head + "z=x@c;y=x+`z;}", head + "z=x@c;y=x+x;}");
        pair(4, head + "y=1;z=`x;}", head + "y=1;z=x@c;}");
        pair(4, head + "y=1;z=`x@!c;}", head + "y=1;z=x@c;}");
        pair(4, head + "y=1;z=x@c+`x;}", head + "y=1;z=x@c+x@c;}");
        pair(4, head + "y=1;z=x@c->`w;}", head + "y=1;z=x@c->1;}");
        pair(4, head + "y=1;z=1->2+x@c+`w;}", head + "y=1;z=1->2+x@c+3;}");
        pair(4, head + "z=1;y=c?x:`z;}", head + "z=1;y=c?x:1;}");
        pair(4, head + "z=1;y=`1+z;}", head + "y=1;z=1+x@c;}");
        pair(4, head + "y=1;z=`w@c;}", head + "y=1;z=x@c;}");
        pair(4, head + "y=1;z=`(x@c)@c;}", head + "y=1;z=(x)@c;}");
        pair(4, head + "z=1;y=[c,`x,1];}", head + "z=1;y=[c,x@c,1];}");
        pair(4, head + "z=1;y=[c,1,`x];}", head + "z=1;y=[c,1,x@!c];}");
        pair(4, head + "z=1;y=[c,`w,z];}", head + "z=1;y=[c,z,w];}");
        pair(4, head + "y=1;z=`[c,1,1];}", head + "y=1;z=[c,1,1]@c;}");
        pair(4, "A(xi,cb)yi|zi@c=1{z=1;y=`'z;}", "A(xi,cb)yi=1|zi@c{z=1;y='y;}");
        pair(4, head + "y=1;z=`~x;}", head + "y=1;z=~(x@c);}");
    }

    /** "A call is on what its arguments are on (and ^'s letter), on the BASE if all are FREE." */
    private static void clocksOfCalls() {
        String head = ONE + "A(xi,cb)yi|zi@c,db@c{d=T;";
        pair(4, head + "y=1;z=`B(1);}", head + "y=1;z=B(1@c);}");
        pair(4, head + "z=1;y=`B(z);}", head + "z=1;y=B(x);}");
        pair(4, head + "z=1;y=`B(1)^d;}", head + "z=1;y=B(1)^c;}");
        pair(4, head + "y=1;z=B(x@c)^`c;}", head + "y=1;z=B(x@c)^d;}");
        pair(4, head + "y=1;z=`B(1)^c;}", head + "y=1;z=B(1)^d;}");
        pair(4, head + "z=1;y=B(x)^`d;}", head + "z=1;y=B(x)^c;}");
        String two = "C(xi,vi)ui{u=x;}A(xi,cb)yi|zi@c{";
        pair(4, two + "z=1;y=C(x,`z);}", two + "z=1;y=C(x,1);}");
        pair(4, two + "y=1;z=C(1@c,`x);}", two + "y=1;z=C(1@c,x@c);}");
        pair(4, two + "y=1;z=`C(1,2);}", two + "y=1;z=C(1,2)@c;}");
        String none = "C()ui{u=1;}A(cb)yi|zi@c,db@c{d=T;";
        pair(4, none + "y=1;z=`C();}", none + "z=1;y=C();}");
        pair(4, none + "z=1;y=`C()^d;}", none + "y=1;z=C()^d;}");
    }

    /** "An EQUATION's letters are all on what the first one is on (its place else), the X, too, or FREE." */
    private static void clocksOfEquations() {
        String head = "C(xi)ui,vi{u=x;v=x;}A(xi,cb)yi,si|zi@c,wi@c,ti@!c{t=1;";
        pair(4, head + "y,`z=C(x);s=1;w=1;}", head + "y,s=C(x);z=1;w=1;}");
        pair(4, head + "z,`y=C(x@c);s=1;w=1;}", head + "z,w=C(x@c);s=1;y=1;}");
        pair(4, head + "z,w=`C(x);s=1;y=1;}", head + "z,w=C(1@c);s=1;y=1;}");
        pair(4, head + "y,s=`C(x@c);z=1;w=1;}", head + "y,s=C(1);z=1;w=1;}");
        pair(4, head + "z,w=`C(1);s=1;y=1;}", head + "z,w=C(x@c);s=1;y=1;}");
        pair(4, head + "z=1;w=`t;y=1;s=1;}", head + "z=1;w=z;y=1;s=1;}");
        Due.bad(4, "C(xi)ui,vi,qi{u=x;v=x;q=x;}A(cb)yi,si|zi@c{y,s,`z=C(1);}");
    }

    /** "All letters in AUTOMATA are on the BASE (the letter's place), those that have equations there, too." */
    private static void clocksOfAutomata() {
        String head = ONE + "A(xi,cb)yi|zi@c=0,db@c{d=T;";
        pair(4, head + "y=1;${`z=1;};}", head + "z=1;${y=1;};}");
        pair(4, head + "z=1;${y=`z;};}", head + "z=1;${y=x;};}");
        pair(4, head + "z=1;${y=x+`z;};}", head + "z=1;${y=x+x;};}");
        pair(4, head + "z=1;${y=x+`'z;};}", head + "z=1;${y=x+x;};}");
        pair(4, head + "z=1;${y=B(x)^`d;};}", head + "z=1;${y=B(x)^c;};}");
        pair(4, head + "z=1;${y=1;!`d>0;};}", head + "z=1;${y=1;!c>0;};}");
        pair(4, head + "z=1;${y=1;?c&`d~0;};}", head + "z=1;${y=1;?c&c~0;};}");
        pair(4, head + "z=1;${y=1;?'`z=1~0;};}", head + "z=1;${y=1;?x=1~0;};}");
        pair(4, head + "y=1;${`z=x;}{z=x;};}", "A(xi,cb)yi|zi=0{y=1;${z=x;}{z=x;};}");
    }

    /** "~ X has none; -> has, if its first part has; of others but calls and ' what has a part without has none". */
    private static void partsWithoutFirstValues() {
        pair(5, "A(xi)yi{`y=~x;}", "A(xi)yi{y=x;}");
        pair(5, "A(xi)yi{`y=(~x);}", "A(xi)yi{y=1->(~x);}");
        pair(5, "A(xi)yi{`y=1+~x;}", "A(xi)yi{y=1->1+~x;}");
        pair(5, "A(xi)yi{`y=-~x;}", "A(xi)yi{y=1->-~x;}");
        pair(5, "A(xi)yb{`y=1<~x;}", "A(xi)yb{y=T->1<~x;}");
        pair(5, "A(xi)yi{`y=T?1:~x;}", "A(xi)yi{y=T?1:(1->~x);}");
        pair(5, "A(xi)yi{`y=T?~x:1;}", "A(xi)yi{y=1->T?~x:1;}");
        pair(5, "A(xi,cb)yi|zi@c=0{y=1;`z=~x@c;}", "A(xi,cb)yi|zi@c=0{y=1;z=(1->~x)@c;}");
        pair(5, "A(xi,cb)yi{`y=[c,1@c,~x@!c];}", "A(xi,cb)yi{y=[c,1@c,(1->~x)@!c];}");
        pair(5, "A(xi,cb)yi{`y=[c,~x@c,1];}", "A(xi,cb)yi|zi{y=1;z=[c,~x@c,1];}");
        pair(5, ONE + "A(xi)yi{`y=B(x)+~x;}", ONE + "A(xi)yi{y=B(x)+B(1->~x);}");
        pair(5, "A(xi)yi|zi{z=~x;`y=z;}", "A(xi)yi|zi{z=1->~x;y=z;}");
        pair(5, "A(xi)yi|zi,wi{z=~x;w=z;`y=1+w;}", "A(xi)yi|zi,wi{z=~x;w=1->z;y=1+w;}");
        pair(5, "A(xi)yi|zi,wi{`y=1+w;w=z;z=~x;}", "A(xi)yi|zi,wi{y=1->1+w;w=z;z=~x;}");
        Due.good("A(xi)yi=1{y='y+1;}");
        Due.good("A(xi)yi=1{y='y->~x;}");
        // by as many others as there can be
        StringBuilder locals = new StringBuilder();
        StringBuilder body = new StringBuilder();
        for (char c = 'b'; c <= 'z'; c++) {
            locals.append(c == 'b' ? "|" : ",").append(c).append('i');
            body.append((char) (c - 1)).append('=').append(c).append(';');
        }
        pair(5, "A()ai" + locals + "{`" + body + "z=~1;}", "A()ai" + locals + "{" + body + "z=1->~1;}");
        // the second part of -> may have none, however deep it stands
        Due.good("A(xi)yi|zi{z=~x;y=1->2->z+z;}");
    }

    /** "Where one must be: behind ~, ahead of -> , the b of ?, letters behind @ (of CLOCKS, too) and ^ ..". */
    private static void whereFirstValuesMustBe() {
        pair(5, "A(xi)yi|zi{y=1;z=~`~x;}", "A(xi)yi|zi{y=1;z=~x;}");
        pair(5, "A(xi)yi|zi{y=1;z=~`(1+~x);}", "A(xi)yi|zi{y=1;z=~(1->~x);}");
        pair(5, "A(xi)yi|zi{y=1;z=`~x->1;}", "A(xi)yi|zi{y=1;z=1->~x;}");
        pair(5, "A(xb)yi|zi{y=1;z=`~x?1:2;}", "A(xb)yi|zi{y=1;z=x?~1:~2;}");
        pair(5, "A(xb)yi|db,zi@`d{y=1;z=1;d=~x;}", "A(xb)yi|db,zi@d{y=1;z=1;d=x;}");
        pair(5, "A(xb)yi|db,zi@!`d{y=1;z=1;d=~x;}", "A(xb)yi|db,zi@!d{y=1;z=1;d=T->~x;}");
        pair(5, "A(xb)yi|db,zi{y=1;z=[`d,1,2];d=~x;}", "A(xb)yi|db,zi{y=1;z=[d,1,2];d=x;}");
        pair(5, "A(xb)yi|db,zi{y=1;z=1->[`d,1@d,2];d=~x;}", "A(xb)yi|db,zi{y=1;z=[d,1@d,2];d=x;}");
        pair(5, ONE + "A(xb)yi|db{y=1->B(1)^`d;d=~x;}", ONE + "A(xb)yi|db{y=B(1)^d;d=x;}");
        pair(5, ONE + "A(xi)yi{y=B(`~x);}", ONE + "A(xi)yi{y=B(x);}");
        pair(5, ONE + "A(xi)yi|zi{z=~x;y=1->B(`z);}", ONE + "A(xi)yi|zi{z=x;y=1->B(z);}");
        pair(5, "A(xb)yi|db{d=~x;y=1;${!`d>0;};}", "A(xb)yi|db{d=x;y=1;${!d>0;};}");
        pair(5, "A(xb)yi|db{d=~x;y=1;${?`d~0;};}", "A(xb)yi|db{d=T->~x;y=1;${?d~0;};}");
        pair(5, "A(xb)yi|zi{y=1;${z=`~1;};}", "A(xb)yi|zi{y=1;${z=1->~1;};}");
        pair(5, "A(xb)yi|zi{y=1;${z=1;}{z=`(~1);};}", "A(xb)yi|zi{y=1;${z=1;}{z=(1->~1);};}");
        pair(5, "A(xb)yi,wi{y=1;`w=~1;}", "A(xb)yi,wi{y=1;w=1->~1;}");
        pair(5, "A(xb)yi|wi=1{y=1;`w=~1;}", "A(xb)yi|wi{y=1;w=~1;}");
        // a LOCAL that nothing of this kind needs may have none
        Due.good("A(xb)yi|wi,vi{y=1->w;w=~1;v=w+w;}");
    }

    /** "a letter hangs on all letters in its X .., but not on those that are in what is behind ~ or ' alone". */
    private static void cycles() {
        pair(6, "A()`yi{y=y;}", "A()yi{y=1->~y;}");
        pair(6, "A()`yi{y=1->y;}", "A()yi=1{y='y;}");
        pair(6, "A()`yi{y=1->~y+y;}", "A()yi{y=1->~y+~y;}");
        pair(6, "A()`yi{y=1->~1+(~y+y);}", "A()yi{y=1->~(1+(y+y));}");
        pair(6, ONE + "A()`yi{y=B(y);}", ONE + "A()yi{y=1->~B(y);}");
        pair(6, ONE + "A()`yi|db{y=B(1)^d;d=y>1;}", ONE + "A()yi|db{y=B(1)^d;d=U->~(y>1);}");
        pair(6, "A(cb)yi|`db@c{y=1;d=T@c&d;}", "A(cb)yi|db@c{y=1;d=T@c->~d;}");
        pair(6, "A()`yb{y=[y,T,U];}", "A(cb)yb{y=[c,T,U];}");
        pair(6, "A(xb)yi|`db,ei@d{y=1;e=1;d=[d,x@d,x@!d];}", "A(xb)yi|db,ei@d{y=1;e=1;d=x->~d;}");
        pair(6, "C(xi)ui,vi{u=1;v=1;}A()yi,`zi{y,z=C(z);}", "C(xi)ui,vi{u=1;v=1;}A()yi,zi{y,z=C(1->~z);}");
        // all OUTPUTS hang on all arguments, even on those that the NODE has no use for
        Due.bad(6, "C(xi)ui{u=1;}A()`yi{y=C(y);}");
    }

    /** "one on @ c on c; .. in all of its STATES' equations for it, and in all strong transitions of it". */
    private static void cyclesByOthers() {
        pair(6, "A()`yi,zi{y=z;z=y;}", "A()yi,zi{y=z;z=1->~y;}");
        pair(6, "A()ai,`yi,zi{y=z;z=y;a=z;}", "A()ai,yi,zi{y=1;z=y;a=z;}");
        pair(6, "A()yi|`db,ei@d{y=1;d=[d,e,1]=1;e=1;}", "A()yi|db,ei@d{y=1;d=T->~([d,e,1]=1);e=1;}");
        pair(6, "A()`yi,zi{${y=z;}{y=1;};z=y;}", "A()yi,zi{${y=1->~z;}{y=1;};z=y;}");
        pair(6, "A()`yi,zi{${y=1;}{y=z;};z=y;}", "A()yi,zi{${y=1;}{y=1->~z;};z=y;}");
        pair(6, "A()`yi,zi{${y=z;z=1;}{y=1;z=y;};}", "A()yi,zi{${y=z;z=1;}{y=z;z=2;};}");
        pair(6, "A()`yi{${y=1;!y=1>0;};}", "A()yi{${y=1;?y=1>0;};}");
        pair(6, "A()`yi{${y=1;}{y=1;!y=1>0;};}", "A()yi=0{${y=1;}{y=1;!'y=1>0;};}");
        pair(6, "A()`yi,zi{${y=1;}{y=1;!z=1>0;};z=y;}", "A()yi,zi{${y=1;}{y=1;?z=1>0;};z=y;}");
        pair(6, "A()`yi,zi{${y=1;!z=1>0;};${z=1;!y=1>0;};}", "A()yi,zi{${y=1;!z=1>0;};${z=1;?y=1>0;};}");
        // a LOCAL on @ c hangs on c, and c on it
        pair(6, "A(xb)yi|`cb,zb@c{y=1;c=[c,z,x@!c];z=T;}", "A(xb)yi|cb,zb@c{y=1;c=x;z=T;}");
        // the one on @ c hangs on itself, too, and is told first; c is whatever letter
        for (char c = 'a'; c <= 'x'; c++) {
            Due.bad(6, "A()yi|`zb@C,Cb{y=1;z=T;C=[C,z,T];}".replace('C', c));
            Due.good("A(xb)yi|zb@C,Cb{y=1;z=T;C=x;}".replace('C', c == 'x' ? 'w' : c));
        }
        for (char c = 'a'; c <= 'y'; c++) {
            Due.bad(6, "A()`Ci,zi{C=z;z=C;}".replace('C', c));
            Due.bad(6, "A()`zi,Ci{C=z;z=C;}".replace('C', c));
        }
        // a strong transition of an AUTOMATON without EQUATIONS makes nothing hang on it
        Due.good("A()yi{y=1;${!y=1>0;};}");
        // the first one that is told, not the first one of the letters
        Due.bad(6, "A()`zi,ai{a=z;z=a;}");
        Due.bad(6, "A()ci,`bi,ai{c=1->b;a=b;b=a;}");
        // those that hang on a cycle, but not on themselves, are none
        Due.bad(6, "A()ai,bi,`ci{a=b;b=c;c=c;}");
    }

    /** "Of several FAULTS that of the least number, of these the least place." */
    private static void leastNumberThenLeastPlace() {
        String[] faulty = {"", "A()yi{y=1`", "A()yi{y=`q;}", "A()yi{y=`T;}", "A(cb)yi{y=`1@c;}", "A()yi{`y=~1;}",
            "A()`yi{y=y;}"};
        for (int early = 2; early <= 6; early++) {
            for (int late = 1; late <= 6; late++) {
                String first = faulty[early];
                String second = "B" + faulty[late].substring(1);
                if (late < early) {
                    Due.bad(late, first.replace("`", "") + second);
                } else {
                    Due.bad(early, first + second.replace("`", ""));
                }
            }
        }
        Due.bad(2, "A()yi,zi{y=`q;z=r;}");
        Due.bad(3, "A()yi,zi{y=`T;z=U;}");
        Due.bad(4, "A(cb)yi,zi{y=`1@c;z=1@c;}");
        Due.bad(5, "A(cb)yi,zi{`z=~1;y=~1;}");
        Due.bad(6, "A(cb)`yi,zi{z=z;y=y;}");
    }
}
