import java.util.NoSuchElementException;

/** Promises 17 to 29: orders, promises, jobs, time, deliveries, and how machines are. */
public final class OrdersAndJobsTest {
    private static final Class<IllegalArgumentException> ARGUMENT = IllegalArgumentException.class;
    private static final Class<IllegalStateException> STATE = IllegalStateException.class;
    private static final Class<IndexOutOfBoundsException> INDEX = IndexOutOfBoundsException.class;
    private static final Class<NoSuchElementException> NO_SUCH = NoSuchElementException.class;
    private static final Class<UnsupportedOperationException> UNSUPPORTED =
            UnsupportedOperationException.class;
    private static final Check CHECK = new Check("OrdersAndJobsTest");

    public static void main(String[] args) {
        ordering();
        promising();
        promisingByRisingNumbers();
        withdrawing();
        releasing();
        samePartTwice();
        samePartTakenOnce();
        scrapping();
        scrappingAll();
        advancing();
        endOfTime();
        setups();
        alternatives();
        earliestDueFirst();
        breakdowns();
        endsBeforeBegins();
        delivering();
        deliveringFromOthers();
        deliveringBought();
        states();
        unknownNumbers();
        CHECK.close();
    }

    /** Part 0 is bought, part 1 made of it on machine 0, for each piece 2 of time. */
    private static Foundrymark shop() {
        Foundrymark x = new Foundrymark();
        x.addMachine(3, 0, 500, 10);
        x.addPart(false, 0);
        x.addPart(true, 0);
        x.addComponent(1, 0, 1, -1);
        x.addOperation(1, 0, -1, 2);
        x.receive(0, 100, 1, 0, 0);
        return x;
    }

    private static void ordering() {
        Foundrymark x = shop();
        CHECK.fails("no such part", INDEX, () -> x.order(2, 1, 0, 0));
        CHECK.fails("no such part", INDEX, () -> x.order(-1, 0, 0, 0));
        int[][] wrong = {
            {0, 0, 0}, {101, 0, 0}, {1, -1, 0}, {1, 3, 0}, {1, 0, -1}, {1, 0, 10000},
        };
        for (int[] w : wrong) {
            CHECK.fails("order", ARGUMENT, () -> x.order(0, w[0], w[1], w[2]));
        }
        CHECK.same("least", x.order(0, 1, 0, 0), 0);
        CHECK.same("most", x.order(1, 100, 2, 9999), 1);
        for (int i = 2; i < 30; i++) {
            CHECK.same("order", x.order(1, 1, 0, 0), i);
        }
        CHECK.fails("31st", STATE, () -> x.order(1, 1, 0, 0));
        CHECK.fails("31st and wrong", ARGUMENT, () -> x.order(1, 101, 0, 0));
        CHECK.same("stateOf(29)", x.stateOf(29), '-');
    }

    private static void promising() {
        Foundrymark x = shop();
        x.order(0, 1, 0, 0);
        x.order(1, 60, 0, 0);
        x.order(1, 41, 0, 0);
        x.order(1, 40, 0, 0);
        CHECK.fails("promise(4)", INDEX, () -> x.promise(4));
        CHECK.fails("promise(-1)", INDEX, () -> x.promise(-1));
        CHECK.fails("a bought part's", UNSUPPORTED, () -> x.promise(0));
        CHECK.same("promise(1)", x.promise(1), true);
        CHECK.fails("promised", UNSUPPORTED, () -> x.promise(1));
        CHECK.same("promise(2), too few", x.promise(2), false);
        CHECK.same("it reserves nothing", x.reserved(0), 60);
        CHECK.same("stateOf(2)", x.stateOf(2), '-');
        CHECK.same("promise(3)", x.promise(3), true);
        CHECK.same("reserved(0)", x.reserved(0), 100);
        x.release(1);
        CHECK.fails("released", UNSUPPORTED, () -> x.promise(1));
        x.advance(120);
        CHECK.fails("finished", UNSUPPORTED, () -> x.promise(1));
    }

    private static void promisingByRisingNumbers() {
        Foundrymark x = new Foundrymark();
        x.addPart(false, 0);
        x.addPart(false, 0);
        x.addPart(true, 0);
        x.addComponent(2, 1, 2, -1);
        x.addComponent(2, 0, 1, -1);
        x.receive(0, 3, 1, 0, 0);
        x.receive(1, 5, 1, 0, 0);
        x.receive(1, 50, 1, 0, 3);
        x.receive(1, 5, 1, 0, 0);
        x.receive(0, 3, 1, 1, 0);
        x.order(2, 4, 0, 0);
        CHECK.same("promise(0)", x.promise(0), true);
        long[] due = {3, 5, 0, 3, 1};
        for (int lot = 0; lot < 5; lot++) {
            CHECK.same("reserved(" + lot + ")", x.reserved(lot), due[lot]);
        }
        x.order(2, 3, 0, 0);
        CHECK.same("promise(1), the second component fails", x.promise(1), false);
        CHECK.same("nothing of the first stays reserved", x.reserved(3), 3);
    }

    private static void withdrawing() {
        Foundrymark x = shop();
        x.order(1, 7, 0, 0);
        CHECK.fails("withdraw(1)", INDEX, () -> x.withdraw(1));
        CHECK.fails("withdraw(-1)", INDEX, () -> x.withdraw(-1));
        CHECK.fails("not promised", UNSUPPORTED, () -> x.withdraw(0));
        x.promise(0);
        CHECK.same("withdraw(0)", x.withdraw(0), 7);
        CHECK.same("reserved(0)", x.reserved(0), 0);
        CHECK.same("stateOf(0)", x.stateOf(0), '-');
        CHECK.fails("withdrawn", UNSUPPORTED, () -> x.withdraw(0));
        x.promise(0);
        x.release(0);
        CHECK.fails("released", UNSUPPORTED, () -> x.withdraw(0));
        x.order(0, 1, 0, 0);
        CHECK.fails("a bought part's", UNSUPPORTED, () -> x.withdraw(1));
    }

    private static void releasing() {
        Foundrymark x = shop();
        x.order(0, 1, 0, 0);
        x.order(1, 60, 0, 0);
        x.order(1, 41, 0, 0);
        x.order(1, 40, 0, 0);
        CHECK.fails("release(4)", INDEX, () -> x.release(4));
        CHECK.fails("release(-1)", INDEX, () -> x.release(-1));
        CHECK.fails("a bought part's", UNSUPPORTED, () -> x.release(0));
        CHECK.same("release(1)", x.release(1), true);
        CHECK.same("it begins at once", x.stateOf(1), 'o');
        CHECK.same("rest(0)", x.rest(0), 40);
        CHECK.fails("released", UNSUPPORTED, () -> x.release(1));
        CHECK.same("release(2), too few", x.release(2), false);
        CHECK.same("stateOf(2)", x.stateOf(2), '-');
        CHECK.same("rest(0)", x.rest(0), 40);
        x.promise(3);
        CHECK.same("release(3), promised", x.release(3), true);
        CHECK.same("it waits", x.stateOf(3), 'w');
        CHECK.same("rest(0)", x.rest(0), 0);
        x.advance(200);
        CHECK.fails("finished", UNSUPPORTED, () -> x.release(1));
    }

    private static void samePartTwice() {
        Foundrymark x = new Foundrymark();
        x.addPart(false, 0);
        x.addPart(true, 0);
        x.addComponent(1, 0, 2, -1);
        x.addComponent(1, 0, 3, -1);
        x.receive(0, 9, 1, 0, 0);
        x.order(1, 2, 0, 0);
        CHECK.same("10 of 9", x.promise(0), false);
        x.receive(0, 1, 1, 0, 0);
        CHECK.same("10 of 10", x.promise(0), true);
        CHECK.same("withdraw(0)", x.withdraw(0), 10);
    }

    /** The pieces of one lot that are reserved for two components are taken at one go. */
    private static void samePartTakenOnce() {
        Foundrymark x = new Foundrymark();
        x.addMachine(1, 0, 500, 1);
        x.addPart(true, 0);
        x.addPart(true, 0);
        x.addOperation(0, 0, -1, 1);
        x.addComponent(1, 0, 1, -1);
        x.addComponent(1, 0, 1, -1);
        x.order(0, 6, 0, 0);
        x.release(0);
        x.scrap(0, 2);
        x.advance(6);
        CHECK.same("the lot of 4 pieces costs", x.costOf(0), 6);
        x.order(1, 1, 0, 0);
        x.release(1);
        CHECK.same("6 * 2 / 4", x.costOf(1), 3);
        CHECK.same("the rest costs", x.costOf(0), 3);
    }

    private static void scrapping() {
        Foundrymark x = shop();
        x.order(1, 5, 0, 0);
        CHECK.fails("scrap(1, 1)", INDEX, () -> x.scrap(1, 1));
        CHECK.fails("scrap(-1, 0)", INDEX, () -> x.scrap(-1, 0));
        CHECK.fails("not released", UNSUPPORTED, () -> x.scrap(0, 0));
        x.promise(0);
        CHECK.fails("promised", UNSUPPORTED, () -> x.scrap(0, 1));
        x.release(0);
        CHECK.fails("no pieces", ARGUMENT, () -> x.scrap(0, 0));
        CHECK.fails("-1 pieces", ARGUMENT, () -> x.scrap(0, -1));
        CHECK.fails("too many", ARGUMENT, () -> x.scrap(0, 6));
        CHECK.same("scrap(0, 2)", x.scrap(0, 2), 3);
        CHECK.fails("too many of what is left", ARGUMENT, () -> x.scrap(0, 4));
        x.advance(9);
        CHECK.same("the time is that of its begin", x.stateOf(0), 'o');
        x.advance(1);
        CHECK.same("wear is that of its end", x.wear(0), 3);
        CHECK.same("rest(1)", x.rest(1), 3);
        CHECK.same("the cost stays with the others", x.costOf(1), 5 + 10 * 3);
        CHECK.fails("finished", UNSUPPORTED, () -> x.scrap(0, 1));
        x.order(0, 1, 0, 0);
        CHECK.fails("a bought part's", UNSUPPORTED, () -> x.scrap(1, 1));
    }

    private static void scrappingAll() {
        Foundrymark x = shop();
        x.addOperation(1, 0, -1, 1);
        x.order(1, 3, 0, 0);
        x.release(0);
        CHECK.same("scrap(0, 3)", x.scrap(0, 3), 0);
        CHECK.fails("none is left", ARGUMENT, () -> x.scrap(0, 1));
        x.advance(6);
        CHECK.same("the next one takes at least 1", x.stateOf(0), 'o');
        CHECK.same("isSound()", x.isSound(), true);
        x.advance(1);
        CHECK.same("stateOf(0)", x.stateOf(0), 'f');
        CHECK.same("finishedAt(0)", x.finishedAt(0), 7);
        CHECK.fails("it made no lot", NO_SUCH, () -> x.lotOf(0));
        CHECK.same("lots()", x.lots(), 1);
        CHECK.same("isSound()", x.isSound(), true);
        CHECK.same("deliver(0), too few", x.deliver(0), false);
        x.order(1, 4, 0, 0);
        x.release(1);
        x.advance(12);
        CHECK.same("deliver(0), of another's", x.deliver(0), true);
        CHECK.same("rest(1)", x.rest(1), 1);
        CHECK.same("isSound()", x.isSound(), true);
    }

    private static void advancing() {
        Foundrymark x = new Foundrymark();
        CHECK.fails("advance(0)", ARGUMENT, () -> x.advance(0));
        CHECK.fails("advance(-1)", ARGUMENT, () -> x.advance(-1));
        CHECK.fails("advance(501)", ARGUMENT, () -> x.advance(501));
        CHECK.fails("advance(most)", ARGUMENT, () -> x.advance(Integer.MAX_VALUE));
        CHECK.same("advance(1)", x.advance(1), 1);
        CHECK.same("advance(500)", x.advance(500), 501);
    }

    private static void endOfTime() {
        Foundrymark x = new Foundrymark();
        for (int i = 1; i < 10; i++) {
            x.advance(500);
        }
        CHECK.same("advance(499)", x.advance(499), 4999);
        CHECK.fails("advance(2)", STATE, () -> x.advance(2));
        CHECK.fails("advance(501)", ARGUMENT, () -> x.advance(501));
        CHECK.same("advance(1)", x.advance(1), 5000);
        CHECK.fails("advance(1) again", STATE, () -> x.advance(1));
    }

    private static void setups() {
        Foundrymark x = new Foundrymark();
        x.addMachine(2, 7, 500, 1);
        x.addPart(true, 0);
        x.addPart(true, 0);
        x.addPart(true, 1);
        int[] parts = {0, 1, 2, 0};
        for (int part = 0; part < 3; part++) {
            x.addOperation(part, 0, -1, 3);
        }
        for (int i = 0; i < 4; i++) {
            x.order(parts[i], 2, 0, i);
            x.release(i);
        }
        x.advance(100);
        CHECK.same("set up for no family at first", x.finishedAt(0), 13);
        CHECK.same("set up for it", x.finishedAt(1), 19);
        CHECK.same("set up for another one", x.finishedAt(2), 32);
        CHECK.same("set up again", x.finishedAt(3), 45);
        CHECK.same("costs with setup", x.costOf(0), 26);
        CHECK.same("costs without", x.costOf(1), 12);
        CHECK.same("meanBusy()", x.meanBusy(), 45.0);
    }

    private static void alternatives() {
        Foundrymark x = new Foundrymark();
        x.addMachine(1, 0, 500, 1);
        x.addMachine(2, 0, 500, 1);
        x.addPart(true, 0);
        x.addOperation(0, 0, 1, 5);
        for (int i = 0; i < 5; i++) {
            x.order(0, 1, 0, 0);
            x.release(i);
        }
        CHECK.same("1st to the machine", x.machineIs(0), 'o');
        CHECK.same("2nd to the alternative one", x.machineIs(1), 'o');
        CHECK.same("3rd and 5th wait for the machine", x.waiting(0), 2);
        CHECK.same("4th waits for the other", x.waiting(1), 1);
        x.advance(5);
        CHECK.same("costs of the machine", x.costOf(0), 5);
        CHECK.same("costs of the other", x.costOf(1), 10);
        CHECK.same("stateOf(2)", x.stateOf(2), 'o');
        CHECK.same("stateOf(3)", x.stateOf(3), 'o');
        CHECK.same("stateOf(4)", x.stateOf(4), 'w');
        CHECK.same("waiting(0)", x.waiting(0), 1);
        CHECK.same("waiting(1)", x.waiting(1), 0);
    }

    private static void earliestDueFirst() {
        Foundrymark x = shop();
        int[] due = {50, 40, 30, 30, 90};
        for (int i = 0; i < due.length; i++) {
            x.order(1, 1, 0, due[i]);
        }
        x.release(4);
        x.release(0);
        x.release(3);
        x.release(2);
        x.release(1);
        CHECK.same("waiting(0)", x.waiting(0), 4);
        x.advance(20);
        int[] finished = {10, 8, 4, 6, 2};
        for (int i = 0; i < due.length; i++) {
            CHECK.same("finishedAt(" + i + ")", x.finishedAt(i), finished[i]);
        }
    }

    private static void breakdowns() {
        Foundrymark x = new Foundrymark();
        x.addMachine(1, 4, 5, 7);
        x.addPart(true, 0);
        x.addOperation(0, 0, -1, 1);
        x.order(0, 4, 0, 0);
        x.order(0, 1, 0, 0);
        x.order(0, 1, 0, 0);
        x.release(0);
        x.release(1);
        x.release(2);
        CHECK.same("wear(0)", x.wear(0), 0);
        x.advance(8);
        CHECK.same("wear(0) of 4", x.wear(0), 4);
        CHECK.same("machineIs(0)", x.machineIs(0), 'o');
        x.advance(1);
        CHECK.same("wear(0) of 5", x.wear(0), 0);
        CHECK.same("machineIs(0)", x.machineIs(0), 'b');
        CHECK.same("waiting(0)", x.waiting(0), 1);
        CHECK.same("the job goes on", x.finishedAt(1), 9);
        x.advance(6);
        CHECK.same("machineIs(0)", x.machineIs(0), 'b');
        CHECK.same("repairs are no operations", x.meanBusy(), 9.0);
        x.advance(1);
        CHECK.same("machineIs(0)", x.machineIs(0), 'o');
        x.advance(1);
        CHECK.same("it is set up still", x.finishedAt(2), 17);
        CHECK.same("machineIs(0)", x.machineIs(0), '-');
        CHECK.same("wear(0)", x.wear(0), 1);
    }

    private static void endsBeforeBegins() {
        Foundrymark x = new Foundrymark();
        x.addMachine(1, 0, 500, 1);
        x.addMachine(1, 0, 500, 1);
        x.addPart(true, 0);
        x.addPart(true, 0);
        x.addOperation(0, 1, -1, 6);
        x.addOperation(0, 0, -1, 1);
        x.addOperation(1, 0, -1, 3);
        x.order(0, 1, 0, 1);
        x.order(1, 2, 0, 2);
        x.order(1, 1, 0, 3);
        x.release(0);
        x.release(1);
        x.release(2);
        x.advance(6);
        CHECK.same("both ended, and the earlier due one of both begins", x.stateOf(0), 'o');
        CHECK.same("the other waits", x.stateOf(2), 'w');
        CHECK.same("what ended by rising machines", x.lotOf(1), 0);
        x.advance(4);
        CHECK.same("finishedAt(0)", x.finishedAt(0), 7);
        CHECK.same("finishedAt(2)", x.finishedAt(2), 10);
        CHECK.same("lotOf(0)", x.lotOf(0), 1);
        CHECK.same("lotOf(2)", x.lotOf(2), 2);
    }

    private static void delivering() {
        Foundrymark x = shop();
        x.order(1, 5, 0, 10);
        CHECK.fails("deliver(1)", INDEX, () -> x.deliver(1));
        CHECK.fails("deliver(-1)", INDEX, () -> x.deliver(-1));
        CHECK.fails("nothing done", UNSUPPORTED, () -> x.deliver(0));
        x.promise(0);
        CHECK.fails("promised", UNSUPPORTED, () -> x.deliver(0));
        x.release(0);
        CHECK.fails("in work", UNSUPPORTED, () -> x.deliver(0));
        x.advance(10);
        x.hold(1, true);
        CHECK.same("its lot is held", x.deliver(0), false);
        CHECK.same("stateOf(0)", x.stateOf(0), 'f');
        x.hold(1, false);
        CHECK.same("deliver(0)", x.deliver(0), true);
        CHECK.same("rest(1)", x.rest(1), 0);
        CHECK.fails("delivered", UNSUPPORTED, () -> x.deliver(0));
        CHECK.same("deliveredCost(0)", x.deliveredCost(0), 35);
        CHECK.same("lotOf(0)", x.lotOf(0), 1);
        CHECK.same("finishedAt(0)", x.finishedAt(0), 10);
    }

    private static void deliveringFromOthers() {
        Foundrymark x = shop();
        x.addPart(true, 0);
        x.addComponent(2, 1, 1, -1);
        int[] quantities = {2, 2, 5, 4};
        for (int i = 0; i < 4; i++) {
            x.order(1, quantities[i], 0, i);
            x.release(i);
        }
        x.scrap(2, 2);
        x.advance(100);
        x.hold(x.lotOf(0), true);
        x.order(2, 1, 0, 0);
        x.promise(4);
        CHECK.same("one of the second is reserved", x.reserved(x.lotOf(1)), 1);
        CHECK.same("deliver(2)", x.deliver(2), true);
        CHECK.same("not of the held one", x.rest(x.lotOf(0)), 2);
        CHECK.same("not what is reserved", x.rest(x.lotOf(1)), 1);
        CHECK.same("its own first", x.rest(x.lotOf(2)), 0);
        CHECK.same("then the others", x.rest(x.lotOf(3)), 3);
        CHECK.same("lotsIn(2)", x.lotsIn(2), 4);
        CHECK.same("deliver(3), of a rest of 3", x.deliver(3), false);
        CHECK.same("it takes nothing then", x.rest(x.lotOf(3)), 3);
        x.withdraw(4);
        CHECK.same("deliver(3)", x.deliver(3), true);
        CHECK.same("isSound()", x.isSound(), true);
    }

    private static void deliveringBought() {
        Foundrymark x = new Foundrymark();
        x.addPart(false, 0);
        x.receive(0, 3, 5, 0, 0);
        x.receive(0, 3, 7, 0, 3);
        x.receive(0, 3, 9, 0, 0);
        x.order(0, 5, 0, 3);
        x.order(0, 2, 0, 3);
        CHECK.same("deliver(0)", x.deliver(0), true);
        CHECK.same("rest(0)", x.rest(0), 0);
        CHECK.same("rest(1)", x.rest(1), 3);
        CHECK.same("rest(2)", x.rest(2), 1);
        CHECK.same("deliveredCost(0)", x.deliveredCost(0), 33);
        CHECK.fails("delivered", UNSUPPORTED, () -> x.deliver(0));
        CHECK.same("deliver(1), too few", x.deliver(1), false);
        CHECK.same("stateOf(1)", x.stateOf(1), '-');
        CHECK.same("stateOf(0)", x.stateOf(0), 'd');
        CHECK.fails("it has no job", NO_SUCH, () -> x.finishedAt(0));
        CHECK.fails("it made no lot", NO_SUCH, () -> x.lotOf(0));
    }

    private static void states() {
        Foundrymark x = shop();
        x.order(1, 1, 0, 0);
        x.order(1, 1, 0, 0);
        CHECK.same("nothing was done", x.stateOf(0), '-');
        x.promise(0);
        CHECK.same("promised", x.stateOf(0), 'p');
        x.release(1);
        x.release(0);
        CHECK.same("an operation is done", x.stateOf(1), 'o');
        CHECK.same("its job waits", x.stateOf(0), 'w');
        CHECK.fails("made none yet", NO_SUCH, () -> x.lotOf(0));
        CHECK.fails("not finished", NO_SUCH, () -> x.finishedAt(0));
        x.advance(4);
        CHECK.same("finished", x.stateOf(0), 'f');
        CHECK.same("lotOf(0)", x.lotOf(0), 2);
        CHECK.same("finishedAt(0)", x.finishedAt(0), 4);
        x.deliver(0);
        CHECK.same("delivered", x.stateOf(0), 'd');
    }

    private static void unknownNumbers() {
        Foundrymark x = shop();
        x.order(1, 1, 0, 0);
        for (int number : new int[] {-1, 1, 5, 30, Integer.MAX_VALUE, Integer.MIN_VALUE}) {
            CHECK.fails("stateOf", INDEX, () -> x.stateOf(number));
            CHECK.fails("lotOf", INDEX, () -> x.lotOf(number));
            CHECK.fails("finishedAt", INDEX, () -> x.finishedAt(number));
            CHECK.fails("machineIs", INDEX, () -> x.machineIs(number));
            CHECK.fails("wear", INDEX, () -> x.wear(number));
            CHECK.fails("waiting", INDEX, () -> x.waiting(number));
        }
    }
}
