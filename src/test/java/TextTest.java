/** Promises 1 to 5 and 18: a new object, type, module, fault, node, total. */
public final class TextTest {
    public static void main(String[] args) {
        newObject();
        Due.end();
    }

    private static void newObject() {
        Due due = new Due("new object");
        due.total(0, 0);
        due.total(1, 0);
        due.total(2, 0);
        due.total(3, -1);
        due.total(-1, -1);
        due.fault(0, 0);
        due.fault(1, 0);
        due.fault(2, -1);
        due.fault(-1, -1);
        due.node(0, 0, -1);
        due.make(0, -1);
        due.put(0, 0, 0, false);
        due.tick(0, -1);
        due.out(0, 0, Due.THROWS);
        due.flow(0, 'a', Due.THROWS);
        due.state(0, 0, -1);
        due.ticks(0, -1);
        due.save(0, 0, false);
        due.back(0, 0, false);
        due.prove(0, 0, 1, -1);
        due.alike(0, 0, 1, -1);
        due.run(-1, -1);
        due.run(-2, -1);
        due.run(0, -1);
        due.module(Due.THROWS);
        due.fault(0, 1);
        due.fault(1, 0);
    }
}
