/** Promises 1 to 5: a new object, addMachine, addPart, addComponent, addOperation. */
public final class PartsAndMachinesTest {
    private static final Class<IllegalArgumentException> ARGUMENT = IllegalArgumentException.class;
    private static final Class<IllegalStateException> STATE = IllegalStateException.class;
    private static final Class<IndexOutOfBoundsException> INDEX = IndexOutOfBoundsException.class;
    private static final Class<UnsupportedOperationException> UNSUPPORTED =
            UnsupportedOperationException.class;
    private static final Check CHECK = new Check("PartsAndMachinesTest");

    public static void main(String[] args) {
        newObject();
        machines();
        parts();
        components();
        componentsByOption();
        operations();
        operationsComeToJobs();
        CHECK.close();
    }

    private static void newObject() {
        Foundrymark x = new Foundrymark();
        CHECK.same("lots()", x.lots(), 0);
        CHECK.same("isSound()", x.isSound(), true);
        CHECK.fails("meanBusy()", ArithmeticException.class, x::meanBusy);
        CHECK.fails("inTimeShare()", ArithmeticException.class, x::inTimeShare);
        CHECK.fails("partOf(0)", INDEX, () -> x.partOf(0));
        CHECK.fails("stateOf(0)", INDEX, () -> x.stateOf(0));
        CHECK.fails("machineIs(0)", INDEX, () -> x.machineIs(0));
        CHECK.fails("order(0, 1, 0, 0)", INDEX, () -> x.order(0, 1, 0, 0));
        for (int supplier = 0; supplier < 4; supplier++) {
            CHECK.same("rule(" + supplier + ")", x.rule(supplier), 'n');
        }
        CHECK.same("advance(1)", x.advance(1), 1);
    }

    private static void machines() {
        Foundrymark x = new Foundrymark();
        int[][] wrong = {
            {-1, 0, 5, 1}, {21, 0, 5, 1}, {0, -1, 5, 1}, {0, 51, 5, 1},
            {0, 0, 4, 1}, {0, 0, 501, 1}, {0, 0, 5, 0}, {0, 0, 5, 100},
        };
        for (int[] w : wrong) {
            CHECK.fails("addMachine", ARGUMENT, () -> x.addMachine(w[0], w[1], w[2], w[3]));
        }
        CHECK.same("addMachine, least", x.addMachine(0, 0, 5, 1), 0);
        CHECK.same("addMachine, most", x.addMachine(20, 50, 500, 99), 1);
        CHECK.same("addMachine", x.addMachine(1, 2, 30, 4), 2);
        CHECK.same("addMachine", x.addMachine(1, 2, 30, 4), 3);
        CHECK.same("addMachine", x.addMachine(1, 2, 30, 4), 4);
        CHECK.fails("addMachine, 6th", STATE, () -> x.addMachine(0, 0, 5, 1));
        CHECK.fails("addMachine, 6th and wrong", ARGUMENT, () -> x.addMachine(21, 0, 5, 1));
        CHECK.same("machineIs(4)", x.machineIs(4), '-');
        CHECK.fails("machineIs(5)", INDEX, () -> x.machineIs(5));
    }

    private static void parts() {
        Foundrymark x = new Foundrymark();
        CHECK.fails("addPart(true, -1)", ARGUMENT, () -> x.addPart(true, -1));
        CHECK.fails("addPart(false, 4)", ARGUMENT, () -> x.addPart(false, 4));
        for (int i = 0; i < 12; i++) {
            CHECK.same("addPart", x.addPart(i % 2 == 1, i % 4), i);
        }
        CHECK.fails("addPart, 13th", STATE, () -> x.addPart(true, 0));
        CHECK.fails("addPart, 13th and wrong", ARGUMENT, () -> x.addPart(true, 4));
        CHECK.same("receive of a bought part", x.receive(10, 1, 1, 0, 0), 0);
        CHECK.fails("receive of a made part", UNSUPPORTED, () -> x.receive(11, 1, 1, 0, 0));
    }

    private static void components() {
        Foundrymark x = new Foundrymark();
        x.addPart(false, 0);
        x.addPart(true, 0);
        x.addPart(true, 0);
        x.addPart(false, 0);
        CHECK.fails("no such part", INDEX, () -> x.addComponent(4, 0, 1, 0));
        CHECK.fails("no such part", INDEX, () -> x.addComponent(-1, 0, 1, 0));
        CHECK.fails("no such component", INDEX, () -> x.addComponent(1, 4, 1, 0));
        CHECK.fails("no such component", INDEX, () -> x.addComponent(1, -1, 1, 0));
        CHECK.fails("no such component of a bought part", INDEX, () -> x.addComponent(0, 4, 0, 9));
        CHECK.fails("a bought part", UNSUPPORTED, () -> x.addComponent(3, 0, 1, 0));
        CHECK.fails("itself", UNSUPPORTED, () -> x.addComponent(1, 1, 1, 0));
        CHECK.fails("a higher number", UNSUPPORTED, () -> x.addComponent(1, 2, 0, 9));
        CHECK.fails("no pieces", ARGUMENT, () -> x.addComponent(1, 0, 0, 0));
        CHECK.fails("10 pieces", ARGUMENT, () -> x.addComponent(1, 0, 10, 0));
        CHECK.fails("option 3", ARGUMENT, () -> x.addComponent(1, 0, 1, 3));
        CHECK.fails("option -2", ARGUMENT, () -> x.addComponent(1, 0, 1, -2));
        CHECK.same("1st", x.addComponent(1, 0, 9, -1), 1);
        CHECK.same("2nd", x.addComponent(1, 0, 1, 2), 2);
        CHECK.same("3rd", x.addComponent(1, 0, 1, 0), 3);
        CHECK.same("4th", x.addComponent(1, 0, 1, 0), 4);
        CHECK.fails("5th", STATE, () -> x.addComponent(1, 0, 1, 0));
        CHECK.fails("5th and wrong", ARGUMENT, () -> x.addComponent(1, 0, 10, 0));
        CHECK.same("1st of another", x.addComponent(2, 1, 1, 0), 1);
    }

    private static void componentsByOption() {
        Foundrymark x = new Foundrymark();
        x.addPart(false, 0);
        x.addPart(true, 0);
        x.addComponent(1, 0, 2, -1);
        x.addComponent(1, 0, 3, 1);
        x.receive(0, 100, 1, 0, 0);
        for (int option = 0; option < 3; option++) {
            x.order(1, 4, option, 0);
            CHECK.same("promise", x.promise(option), true);
        }
        CHECK.same("option 0", x.withdraw(0), 8);
        CHECK.same("option 1", x.withdraw(1), 20);
        x.addComponent(1, 0, 1, 2);
        CHECK.same("option 2, promised before", x.withdraw(2), 8);
        CHECK.same("promise again", x.promise(2), true);
        CHECK.same("option 2, promised again", x.withdraw(2), 12);
    }

    private static void operations() {
        Foundrymark x = new Foundrymark();
        x.addPart(false, 0);
        x.addPart(true, 0);
        x.addMachine(1, 0, 5, 1);
        x.addMachine(1, 0, 5, 1);
        CHECK.fails("no such part", INDEX, () -> x.addOperation(2, 0, -1, 1));
        CHECK.fails("no such part", INDEX, () -> x.addOperation(-1, 0, -1, 1));
        CHECK.fails("no such machine", INDEX, () -> x.addOperation(1, 2, -1, 1));
        CHECK.fails("no such machine", INDEX, () -> x.addOperation(1, -1, -1, 1));
        CHECK.fails("no such alternative", INDEX, () -> x.addOperation(1, 0, 2, 1));
        CHECK.fails("no such alternative", INDEX, () -> x.addOperation(1, 0, -2, 1));
        CHECK.fails("a bought part, no machine", INDEX, () -> x.addOperation(0, 5, -1, 0));
        CHECK.fails("a bought part", UNSUPPORTED, () -> x.addOperation(0, 0, -1, 0));
        CHECK.fails("no time", ARGUMENT, () -> x.addOperation(1, 0, -1, 0));
        CHECK.fails("time 21", ARGUMENT, () -> x.addOperation(1, 0, -1, 21));
        CHECK.same("1st", x.addOperation(1, 0, -1, 1), 1);
        CHECK.same("2nd", x.addOperation(1, 1, 1, 20), 2);
        CHECK.same("3rd", x.addOperation(1, 1, 0, 2), 3);
        CHECK.fails("4th", STATE, () -> x.addOperation(1, 0, -1, 1));
        CHECK.fails("4th and wrong", ARGUMENT, () -> x.addOperation(1, 0, -1, 0));
    }

    private static void operationsComeToJobs() {
        Foundrymark x = new Foundrymark();
        x.addPart(true, 0);
        x.addMachine(1, 0, 500, 1);
        x.addOperation(0, 0, -1, 3);
        x.order(0, 2, 0, 0);
        x.release(0);
        x.advance(5);
        x.addOperation(0, 0, -1, 1);
        x.advance(1);
        CHECK.same("goes to the new operation", x.stateOf(0), 'o');
        x.advance(2);
        CHECK.same("finishedAt(0)", x.finishedAt(0), 8);
        x.addOperation(0, 0, -1, 1);
        x.advance(5);
        CHECK.same("stays finished", x.finishedAt(0), 8);
    }
}
