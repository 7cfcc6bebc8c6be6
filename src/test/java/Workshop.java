/** Factories that the tests of edges begin from. */
final class Workshop {
    private Workshop() {
    }

    /** Part 0 is bought; there is nothing else. */
    static Foundrymark bought() {
        Foundrymark x = new Foundrymark();
        x.addPart(false, 0);
        return x;
    }

    /** Part 0 is bought, part 1 made of one of it, part 2 of one of that; no machine is needed. */
    static Foundrymark chain() {
        Foundrymark x = bought();
        x.addPart(true, 0);
        x.addPart(true, 0);
        x.addComponent(1, 0, 1, -1);
        x.addComponent(2, 1, 1, -1);
        return x;
    }

    /** Machine 0 makes part 0, of nothing, 1 of time a piece. */
    static Foundrymark machine(int rate, int setup, int life, int repair) {
        Foundrymark x = new Foundrymark();
        x.addMachine(rate, setup, life, repair);
        x.addPart(true, 0);
        x.addOperation(0, 0, -1, 1);
        return x;
    }

    /** Part 0 is bought, 100 pieces at 1; machine 0 makes part 1 of it, 2 of time a piece. */
    static Foundrymark shop() {
        Foundrymark x = bought();
        x.addMachine(3, 0, 500, 10);
        x.addPart(true, 0);
        x.addComponent(1, 0, 1, -1);
        x.addOperation(1, 0, -1, 2);
        x.receive(0, 100, 1, 0, 0);
        return x;
    }

    /** Orders pieces of a part and releases them; returns the number of the order. */
    static int job(Foundrymark x, int part, int pieces, int due) {
        int order = x.order(part, pieces, 0, due);
        x.release(order);
        return order;
    }

    /** Lets more time go on than one call can. */
    static void pass(Foundrymark x, int time) {
        for (int left = time; left > 0; left -= 500) {
            x.advance(Math.min(left, 500));
        }
    }

    /**
     * Something of every kind: orders 0 to 9 are finished, delivered, waiting, delivered (a
     * bought part's), in work, promised, untouched, finished, untouched, untouched (a bought
     * part's); machine 0 works, 1 is free, 2 is broken; rules, charts and wear stand midway.
     */
    static Foundrymark busy() {
        Foundrymark x = new Foundrymark();
        x.addMachine(2, 3, 10, 40);
        x.addMachine(5, 2, 500, 1);
        x.addMachine(1, 0, 5, 90);
        x.addPart(false, 0);
        x.addPart(false, 1);
        x.addPart(true, 2);
        x.addPart(true, 3);
        x.addPart(true, 0);
        x.addPart(true, 1);
        x.addComponent(2, 0, 2, -1);
        x.addComponent(2, 1, 1, 1);
        x.addComponent(3, 2, 1, -1);
        x.addComponent(5, 2, 1, 2);
        x.addOperation(2, 0, 1, 2);
        x.addOperation(3, 1, -1, 3);
        x.addOperation(3, 0, -1, 1);
        x.addOperation(4, 2, -1, 1);
        receiveBusy(x);
        workBusy(x);
        return x;
    }

    private static void receiveBusy(Foundrymark x) {
        x.receive(0, 100, 3, 0, 2);
        x.receive(0, 100, 4, 0, 3);
        x.receive(1, 50, 7, 1, 3);
        x.receive(1, 50, 7, 1, 3);
        x.hold(3, false);
        x.receive(1, 20, 9, 1, 1);
        for (int i = 0; i < 4; i++) {
            x.receive(1, 5, 1, 2, 0);
        }
        for (int i = 0; i < 3; i++) {
            x.receive(0, 9, 1, 3, 0);
        }
        for (int i = 0; i < 3; i++) {
            x.measure(0, 101);
        }
        x.setChart(1, 500, 20);
        x.measure(4, 499);
    }

    private static void workBusy(Foundrymark x) {
        x.order(2, 4, 0, 9);
        x.release(0);
        x.order(4, 5, 0, 0);
        x.release(1);
        x.order(4, 2, 0, 7);
        x.release(2);
        x.order(0, 3, 0, 20);
        x.deliver(3);
        x.advance(12);
        x.order(2, 5, 1, 30);
        x.release(4);
        x.order(3, 2, 0, 40);
        x.promise(5);
        x.order(2, 3, 2, 50);
        x.order(5, 1, 2, 14);
        x.release(7);
        x.order(4, 1, 0, 60);
        x.order(1, 2, 0, 70);
        x.deliver(1);
        x.scrap(4, 1);
    }

    /** No room for a machine, a part, a component of part 11 or an operation of it. */
    static Foundrymark fullOfParts() {
        Foundrymark x = new Foundrymark();
        for (int i = 0; i < 5; i++) {
            x.addMachine(1, 0, 500, 1);
        }
        for (int i = 0; i < 12; i++) {
            x.addPart(i >= 6, i % 4);
        }
        for (int i = 0; i < 4; i++) {
            x.addComponent(11, i, 1, -1);
        }
        for (int i = 0; i < 3; i++) {
            x.addOperation(11, i, -1, 1);
        }
        return x;
    }

    /** Part 11 gets part 10 as a component: the greatest numbers that there are. */
    static Foundrymark partTwelve() {
        Foundrymark x = new Foundrymark();
        for (int i = 0; i < 12; i++) {
            x.addPart(i > 0, 0);
        }
        x.addComponent(11, 10, 1, -1);
        return x;
    }

    /** 60 bought lots of part 0; part 1 is made. */
    static Foundrymark fullOfLots() {
        Foundrymark x = bought();
        x.addPart(true, 0);
        x.addComponent(1, 0, 1, -1);
        for (int i = 0; i < 60; i++) {
            x.receive(0, 2, 3, i % 4, 0);
        }
        return x;
    }

    /** 30 orders of part 1, 3 of which are finished. */
    static Foundrymark fullOfOrders() {
        Foundrymark x = bought();
        x.addPart(true, 0);
        x.addComponent(1, 0, 1, -1);
        x.receive(0, 60, 3, 0, 0);
        for (int i = 0; i < 30; i++) {
            x.order(1, 2, 0, i);
        }
        for (int i = 0; i < 3; i++) {
            x.release(i);
        }
        return x;
    }

    /** The time is 4999, and machine 0 would still be busy at 5000. */
    static Foundrymark late() {
        Foundrymark x = shop();
        pass(x, 4990);
        job(x, 1, 9, 5000);
        x.advance(9);
        return x;
    }
}
