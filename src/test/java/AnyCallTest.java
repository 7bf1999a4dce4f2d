import java.util.NoSuchElementException;

/**
 * Any call with any arguments in any state, on TEXTS that are whole or changed: nothing but what the document says
 * may be thrown, and each answer is one that can be. The calls are drawn by a row of numbers that is always the same.
 */
public final class AnyCallTest {
    private static final int[] ARGUMENTS = {Due.LEAST, Due.LEAST + 1, -257, -3, -2, -1, 0, 1, 2, 3, 4, 5, 6, 7, 8, 9,
        25, 26, 59, 60, 61, 96, 97, 98, 99, 120, 121, 122, 123, 255, 256, 299, 300, 301, 699, 700, 701, 65536,
        Due.MOST - 1, Due.MOST};
    private static final String[] TEXTS = {
        "A(xi,cb)yi=12,wb|zi@!c=3,vb@c,ui{y=x%2;w=!c;z=1@!c->~x@!c;v=c@c;${u=c?1:2;!c&!w|(1>2)>1;?1#2~0;}{u=x/2;};}",
        "B(xi,cb)yi,wb{y=x->~y+x;w=c|(U->~c);}"
            + "A(xi,cb)yi,wb|ui{y,w=(B(u%x,T)^c);${u=c?1:2;!c>1;?c~1;}{u=x->~u;?!c>0;};}",
        "A(ab,bb)yb{y=a|(T->~b);}B(ab,bb)yb=1{y=!'y|a;}C(ab,bb)yb{y=A(a,b)&B(b,a);}D(ab,bb)yb{y=1/(a?0:1)=1;}",
        "A(ab)yi{y=[a,1@a,2];}B(ab)yi|zi@a,cb@a,wi@!c{z=A(T@a);c=a@a;w=z@!c;y=[a,z,0]+[a,[c,3,w],4];}C(ab)yi{y=B(a);}",
        "A()yb|ni{n=(0->~n+1)%7;y=n<6;}B()yb{${y=T;?T>1;}{y=T;?T>2;}{y=A();!U~0;};}C()yi=5{y='y*2%11;}",
    };

    private static long drawn = 20261116;
    private static int wrong = 0;
    private static int calls = 0;

    public static void main(String[] args) {
        for (String text : TEXTS) {
            readIn(new TickHouse(), text);
            Due.good(text);
        }
        for (int round = 0; round < 5000; round++) {
            manyCalls(TEXTS[draw(TEXTS.length)]);
        }
        System.out.println(calls + " calls, " + wrong + " wrong");
        if (wrong > 0) {
            System.exit(1);
        }
        Due.end();
    }

    private static int draw(int below) {
        drawn = drawn * 6364136223846793005L + 1442695040888963407L;
        return (int) ((drawn >>> 33) % below);
    }

    private static int any() {
        return draw(3) == 0 ? ARGUMENTS[draw(ARGUMENTS.length)] : draw(4);
    }

    private static void check(boolean fits, String what) {
        calls++;
        if (!fits) {
            wrong++;
            System.out.println(what);
        }
    }

    private static String changed(String text) {
        StringBuilder made = new StringBuilder(text);
        for (int k = draw(3); k > 0; k--) {
            int at = draw(made.length());
            switch (draw(4)) {
                case 0:
                    made.deleteCharAt(at);
                    break;
                case 1:
                    made.insert(at, (char) (33 + draw(94)));
                    break;
                case 2:
                    made.insert(at, text.charAt(draw(text.length())));
                    break;
                default:
                    made.setCharAt(at, text.charAt(draw(text.length())));
                    break;
            }
        }
        return made.toString();
    }

    private static void manyCalls(String text) {
        TickHouse house = new TickHouse();
        String latest = "";
        try {
            // at most three calls each, so that an object has less than 512
            for (int k = 0; k < 2; k++) {
                latest = changed(text);
                readIn(house, latest);
                for (int call = 0; call < 70; call++) {
                    oneCall(house, any(), any(), any());
                }
            }
        } catch (RuntimeException e) {
            check(false, e + " with " + latest);
        }
    }

    private static void readIn(TickHouse house, String text) {
        for (int from = 0; from < text.length(); from += 8) {
            int to = Math.min(text.length(), from + 8);
            long word = 0;
            for (int k = from; k < to; k++) {
                word = word << 8 | text.charAt(k);
            }
            check(house.type(word, to - from), "type() of " + text);
        }
        int nodes = house.total(0);
        int instances = house.total(2);
        try {
            int told = house.module();
            check(told >= 1 && told <= 8 && told == house.total(0), "module() of " + text);
            check(house.fault(0) == 0 && house.fault(1) == 0 && house.total(2) == 0, "behind module() of " + text);
        } catch (IllegalArgumentException e) {
            int place = house.fault(1);
            check(house.fault(0) >= 1 && house.fault(0) <= 6 && place >= 0 && place <= 700, "fault() of " + text);
            check(house.total(0) == nodes && house.total(2) == instances, "behind the FAULT of " + text);
        }
        check(house.total(1) == 0, "total(1) behind " + text);
    }

    private static void oneCall(TickHouse house, int a, int b, int c) {
        switch (draw(14)) {
            case 0:
                check(house.node(a, b) >= -1, "node()");
                break;
            case 1:
                check(house.make(a) < 8, "make()");
                break;
            case 2:
                check(!house.put(a, b, c) || a >= 0 && a < house.total(2), "put()");
                break;
            case 3:
            case 4:
                check(house.tick(a) >= -1 && house.tick(a) <= 700, "tick()");
                break;
            case 5:
                out(house, a, b);
                break;
            case 6:
                flow(house, a, b);
                break;
            case 7:
                check(house.state(a, b) >= -1 && house.state(a, b) < 6, "state()");
                break;
            case 8:
                check(house.ticks(a) >= -1, "ticks()");
                break;
            case 9:
                check(!house.save(a, b) || house.back(a, b), "save(), then back()");
                break;
            case 10:
                check(house.prove(a, b, c) <= 2, "prove()");
                break;
            case 11:
                check(house.alike(a, b, c) <= 2, "alike()");
                break;
            case 12:
                check(house.run(a) >= -1 && house.run(a) <= 300, "run()");
                break;
            default:
                check(house.back(a, b) || house.fault(a) >= -1 && house.total(b) >= -1, "back(), fault(), total()");
                break;
        }
    }

    private static void out(TickHouse house, int a, int b) {
        try {
            house.out(a, b);
            check(house.total(2) > a, "out()");
        } catch (NoSuchElementException e) {
            check(true, "");
        }
    }

    private static void flow(TickHouse house, int a, int b) {
        try {
            house.flow(a, b);
            check(house.total(2) > a, "flow()");
        } catch (NoSuchElementException e) {
            check(true, "");
        }
    }
}
