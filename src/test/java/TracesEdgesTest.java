/** The edges that promises 30 to 36 and the terms of traces and deliveries name. */
public final class TracesEdgesTest {
    private static final Check CHECK = new Check("TracesEdgesTest");

    public static void main(String[] args) {
        promise30NoSuchLot();
        promise30NoneIsInItself();
        promise30OverAnyNumberOfSteps();
        promise30ReservedIsNotIn();
        promise30ScrappedIsIn();
        promise31NoSuchLot();
        promise31HowManyOrders();
        promise31MadeIsNotDelivered();
        promise31OverAnyNumberOfSteps();
        promise32NoSuchOrder();
        promise32NotDelivered();
        promise32EachLotOnce();
        promise32OnlyWhatWasTaken();
        promise33NoSuchOrder();
        promise33NotDelivered();
        promise33CostOfWhatWasDelivered();
        promise34NoneWas();
        promise34NotLaterThanDue();
        promise34Shares();
        promise35NoMachines();
        promise35UpToNow();
        promise35MeanOfAllMachines();
        promise36NewAndEmpty();
        promise36OfEveryKind();
        promise36AllTheTime();
        CHECK.close();
    }

    private static void promise30NoSuchLot() {
        CHECK.of("Promise 30: if there is no such lot, for either");
        Foundrymark x = Workshop.busy();
        CHECK.range(0, 14, Check.INDEX, n -> x.isIn(n, 0));
        CHECK.range(0, 14, Check.INDEX, n -> x.isIn(0, n));
        CHECK.outside(0, 14, Check.INDEX, n -> x.isIn(n, n));
        Foundrymark full = Workshop.fullOfLots();
        CHECK.range(0, 59, Check.INDEX, n -> full.isIn(n, 59));
        CHECK.range(0, 59, Check.INDEX, n -> full.isIn(59, n));
    }

    private static void promise30NoneIsInItself() {
        CHECK.of("Promise 30: none is in itself");
        Foundrymark x = Workshop.busy();
        for (int lot = 0; lot < x.lots(); lot++) {
            CHECK.same("isIn(" + lot + ", " + lot + ")", x.isIn(lot, lot), false);
        }
    }

    /** Each part but the first is made of the one before; lot i is of part i. */
    private static Foundrymark longChain() {
        Foundrymark x = Workshop.bought();
        x.receive(0, 9, 1, 0, 0);
        for (int i = 1; i < 12; i++) {
            x.addPart(true, 0);
            x.addComponent(i, i - 1, 1, -1);
            Workshop.job(x, i, 2, 0);
        }
        return x;
    }

    private static void promise30OverAnyNumberOfSteps() {
        CHECK.of("Terms, Traces: if pieces of it were taken to make it, over any number of steps");
        Foundrymark x = longChain();
        for (int lot = 0; lot < 12; lot++) {
            for (int other = 0; other < 12; other++) {
                CHECK.same("isIn(" + lot + ", " + other + ")", x.isIn(lot, other), lot < other);
            }
        }
    }

    private static void promise30ReservedIsNotIn() {
        CHECK.of("Terms, Traces: if pieces of it were taken");
        Foundrymark x = Workshop.chain();
        x.receive(0, 3, 1, 0, 0);
        x.receive(0, 3, 1, 0, 0);
        x.order(1, 4, 0, 0);
        x.promise(0);
        x.withdraw(0);
        x.hold(0, true);
        Workshop.job(x, 1, 2, 0);
        CHECK.same("reserved once, not taken", x.isIn(0, 2), false);
        CHECK.same("taken", x.isIn(1, 2), true);
        CHECK.same("made of the same", x.isIn(1, 0), false);
        x.hold(0, false);
        x.release(0);
        CHECK.same("a single piece of it", x.isIn(1, 3), true);
        CHECK.same("isIn(0, 3)", x.isIn(0, 3), true);
        CHECK.same("sisters", x.isIn(2, 3), false);
    }

    private static void promise30ScrappedIsIn() {
        CHECK.of("Terms, Traces: pieces that were taken, and scrapped then");
        Foundrymark x = Workshop.shop();
        x.receive(0, 5, 1, 0, 0);
        x.order(0, 99, 0, 0);
        x.deliver(0);
        Workshop.job(x, 1, 2, 0);
        x.scrap(1, 1);
        x.advance(4);
        CHECK.same("of a lot", x.isIn(0, 2), true);
        CHECK.same("of another", x.isIn(1, 2), true);
    }

    private static void promise31NoSuchLot() {
        CHECK.of("Promise 31: if there is no such lot");
        Foundrymark x = Workshop.busy();
        CHECK.range(0, 14, Check.INDEX, x::touched);
        Foundrymark full = Workshop.fullOfLots();
        CHECK.range(0, 59, Check.INDEX, full::touched);
    }

    private static void promise31HowManyOrders() {
        CHECK.of("Promise 31: Returns how many orders a lot is in");
        Foundrymark x = Workshop.bought();
        x.receive(0, 30, 1, 0, 0);
        for (int i = 0; i < 30; i++) {
            x.order(0, 1, 0, 0);
            CHECK.same("touched(0)", x.touched(0), i);
            x.deliver(i);
        }
        CHECK.same("all orders", x.touched(0), 30);
        CHECK.same("lotsIn(29)", x.lotsIn(29), 1);
        CHECK.same("isSound()", x.isSound(), true);
    }

    private static void promise31MadeIsNotDelivered() {
        CHECK.of("Terms, Traces: were delivered by it");
        Foundrymark x = Workshop.chain();
        x.receive(0, 9, 1, 0, 0);
        Workshop.job(x, 1, 2, 0);
        CHECK.same("made alone, the inner", x.touched(0), 0);
        CHECK.same("made alone, the outer", x.touched(1), 0);
        x.hold(1, true);
        x.deliver(0);
        CHECK.same("not delivered", x.touched(0), 0);
        x.hold(1, false);
        x.deliver(0);
        CHECK.same("delivered, the inner", x.touched(0), 1);
        CHECK.same("delivered, the outer", x.touched(1), 1);
    }

    private static void promise31OverAnyNumberOfSteps() {
        CHECK.of("Terms, Traces: if pieces of it, or of one that it is in, were delivered");
        Foundrymark x = longChain();
        CHECK.same("the last one", x.deliver(10), true);
        CHECK.same("lotsIn(10)", x.lotsIn(10), 12);
        for (int lot = 0; lot < 12; lot++) {
            CHECK.same("touched(" + lot + ")", x.touched(lot), 1);
        }
        x.order(0, 1, 0, 0);
        x.deliver(11);
        CHECK.same("the first one", x.touched(0), 2);
        CHECK.same("the second one", x.touched(1), 1);
    }

    private static void promise32NoSuchOrder() {
        CHECK.of("Promise 32: if there is no such order");
        Foundrymark x = Workshop.busy();
        CHECK.range(0, 9, Check.INDEX, x::lotsIn);
        Foundrymark full = Workshop.fullOfOrders();
        CHECK.range(0, 29, Check.INDEX, full::lotsIn);
    }

    private static void promise32NotDelivered() {
        CHECK.of("Promise 32: an order that is not delivered has no lots in it");
        Foundrymark x = Workshop.busy();
        int[] due = {0, 1, 0, 1, 0, 0, 0, 0, 0, 0};
        for (int order = 0; order < 10; order++) {
            CHECK.same("lotsIn(" + order + ")", x.lotsIn(order), due[order]);
        }
    }

    private static void promise32EachLotOnce() {
        CHECK.of("Promise 32: Returns how many lots are in an order: each once");
        Foundrymark x = Workshop.chain();
        x.addComponent(2, 0, 1, -1);
        x.receive(0, 20, 1, 0, 0);
        Workshop.job(x, 1, 3, 0);
        Workshop.job(x, 1, 3, 0);
        Workshop.job(x, 2, 5, 0);
        x.deliver(2);
        CHECK.same("one bought, two made, and its own", x.lotsIn(2), 4);
        CHECK.same("touched(0)", x.touched(0), 1);
    }

    private static void promise32OnlyWhatWasTaken() {
        CHECK.of("Terms, Traces: a lot is in an order if pieces of it were delivered by it");
        Foundrymark x = Workshop.bought();
        for (int i = 0; i < 3; i++) {
            x.receive(0, 5, 1, 0, 0);
        }
        x.order(0, 5, 0, 0);
        x.order(0, 6, 0, 0);
        x.deliver(0);
        CHECK.same("exactly one lot", x.lotsIn(0), 1);
        CHECK.same("none of the next", x.touched(1), 0);
        x.deliver(1);
        CHECK.same("one whole, and a single piece", x.lotsIn(1), 2);
        CHECK.same("not the one that was used up before", x.touched(0), 1);
        CHECK.same("touched(2)", x.touched(2), 1);
    }

    private static void promise33NoSuchOrder() {
        CHECK.of("Promise 33: if there is no such order");
        Foundrymark x = Workshop.busy();
        CHECK.outside(0, 9, Check.INDEX, x::deliveredCost);
        Foundrymark full = Workshop.fullOfOrders();
        CHECK.outside(0, 29, Check.INDEX, full::deliveredCost);
    }

    private static void promise33NotDelivered() {
        CHECK.of("Promise 33: if it was not delivered");
        Foundrymark x = Workshop.busy();
        for (int order : new int[] {0, 2, 4, 5, 6, 7, 8, 9}) {
            CHECK.fails("order " + order, Check.NO_SUCH, () -> x.deliveredCost(order));
        }
        CHECK.same("a made one", x.deliveredCost(1), 5);
        CHECK.same("a bought one", x.deliveredCost(3), 9);
        CHECK.same("too few pieces", x.deliver(0), false);
        CHECK.fails("not delivered by this", Check.NO_SUCH, () -> x.deliveredCost(0));
    }

    private static void promise33CostOfWhatWasDelivered() {
        CHECK.of("Promise 33: Returns the cost of what was delivered by an order");
        Foundrymark x = Workshop.bought();
        x.receive(0, 1, 0, 0, 0);
        x.receive(0, 50, 999, 0, 0);
        x.receive(0, 500, 2, 0, 0);
        x.order(0, 1, 0, 0);
        x.order(0, 100, 0, 0);
        x.order(0, 1, 0, 0);
        x.deliver(0);
        CHECK.same("for nothing", x.deliveredCost(0), 0);
        x.deliver(1);
        CHECK.same("of two lots", x.deliveredCost(1), 50 * 999 + 50 * 2);
        x.deliver(2);
        CHECK.same("it stays", x.deliveredCost(1), 50 * 999 + 50 * 2);
        CHECK.same("costs that are left", x.costOf(2), 449 * 2);
    }

    private static void promise34NoneWas() {
        CHECK.of("Promise 34: if none was");
        Foundrymark x = Workshop.shop();
        CHECK.fails("no orders", Check.ARITHMETIC, x::inTimeShare);
        Workshop.job(x, 1, 1, 9);
        x.advance(2);
        CHECK.same("stateOf(0)", x.stateOf(0), 'f');
        CHECK.fails("finished, not delivered", Check.ARITHMETIC, x::inTimeShare);
        x.hold(1, true);
        x.deliver(0);
        CHECK.fails("too few pieces", Check.ARITHMETIC, x::inTimeShare);
        x.hold(1, false);
        x.deliver(0);
        CHECK.same("one was", x.inTimeShare(), 1.0f);
    }

    private static void promise34NotLaterThanDue() {
        CHECK.of("Promise 34: delivered not later than their due times");
        int[][] cases = {{0, 0, 1}, {0, 1, 0}, {1, 0, 1}, {7, 6, 1}, {7, 7, 1}, {7, 8, 0},
            {9999, 5000, 1}, {4999, 5000, 0}, {5000, 5000, 1}};
        for (int[] c : cases) {
            Foundrymark x = Workshop.bought();
            x.receive(0, 1, 1, 0, 0);
            x.order(0, 1, 0, c[0]);
            Workshop.pass(x, c[1]);
            x.deliver(0);
            CHECK.same("due " + c[0] + " at " + c[1], x.inTimeShare(), (float) c[2]);
        }
        Foundrymark x = Workshop.shop();
        Workshop.job(x, 1, 1, 2);
        x.advance(3);
        x.deliver(0);
        CHECK.same("finished in time, delivered late", x.inTimeShare(), 0.0f);
    }

    private static void promise34Shares() {
        CHECK.of("Promise 34: Returns their number divided by that of all that were delivered");
        Foundrymark x = Workshop.bought();
        x.receive(0, 30, 1, 0, 0);
        x.advance(1);
        int inTime = 0;
        for (int i = 0; i < 29; i++) {
            boolean isInTime = i % 3 == 1;
            x.order(0, 1, 0, isInTime ? 1 : 0);
            x.deliver(i);
            inTime += isInTime ? 1 : 0;
            CHECK.same(inTime + " of " + (i + 1), x.inTimeShare(), (float) inTime / (float) (i + 1));
        }
        x.order(0, 100, 0, 9);
        x.deliver(29);
        CHECK.same("those not delivered don't count", x.inTimeShare(), 10.0f / 29.0f);
    }

    private static void promise35NoMachines() {
        CHECK.of("Promise 35: if there are no machines");
        Foundrymark x = Workshop.chain();
        CHECK.fails("at first", Check.ARITHMETIC, x::meanBusy);
        x.advance(5);
        CHECK.fails("later", Check.ARITHMETIC, x::meanBusy);
        x.addMachine(1, 0, 5, 1);
        CHECK.same("one that did nothing", x.meanBusy(), 0.0);
    }

    private static void promise35UpToNow() {
        CHECK.of("Promise 35: the sum over all machines up to now, setups included");
        Foundrymark x = Workshop.machine(1, 3, 5, 4);
        x.advance(6);
        CHECK.same("free", x.meanBusy(), 0.0);
        Workshop.job(x, 0, 5, 0);
        Workshop.job(x, 0, 1, 0);
        CHECK.same("just begun", x.meanBusy(), 0.0);
        double[] due = {1, 2, 3, 4, 5, 6, 7, 8, 8, 8, 8, 8, 9, 9};
        for (int i = 0; i < due.length; i++) {
            x.advance(1);
            CHECK.same("at the time " + (7 + i), x.meanBusy(), due[i]);
        }
    }

    private static void promise35MeanOfAllMachines() {
        CHECK.of("Promise 35: divided by their number, both converted to double");
        Foundrymark x = Workshop.machine(1, 0, 500, 1);
        Workshop.job(x, 0, 7, 0);
        x.advance(10);
        for (int machines = 1; machines <= 5; machines++) {
            CHECK.same("of " + machines, x.meanBusy(), 7.0 / machines);
            if (machines < 5) {
                x.addMachine(1, 0, 500, 1);
            }
        }
        x.addPart(true, 0);
        x.addOperation(1, 4, -1, 2);
        Workshop.job(x, 1, 3, 0);
        x.advance(1);
        CHECK.same("two machines", x.meanBusy(), 8.0 / 5.0);
        x.advance(9);
        CHECK.same("in all", x.meanBusy(), 13.0 / 5.0);
    }

    private static void promise36NewAndEmpty() {
        CHECK.of("Promise 36: nothing is there yet, or no room is left");
        CHECK.same("new", new Foundrymark().isSound(), true);
        CHECK.same("parts", Workshop.fullOfParts().isSound(), true);
        CHECK.same("lots", Workshop.fullOfLots().isSound(), true);
        CHECK.same("orders", Workshop.fullOfOrders().isSound(), true);
        CHECK.same("late", Workshop.late().isSound(), true);
    }

    private static void promise36OfEveryKind() {
        CHECK.of("Promise 36: rests, jobs, scrap, deliveries, and what was lost");
        Foundrymark x = Workshop.busy();
        CHECK.same("busy", x.isSound(), true);
        x.scrap(4, 4);
        x.advance(50);
        CHECK.same("lost", x.stateOf(4), 'f');
        CHECK.same("lost", x.isSound(), true);
        x.release(5);
        x.advance(100);
        x.deliver(5);
        CHECK.same("delivered", x.stateOf(5), 'd');
        CHECK.same("delivered", x.isSound(), true);
    }

    private static void promise36AllTheTime() {
        CHECK.of("Promise 36: no reserved piece is of a lot that is held");
        for (int lot = 0; lot < 15; lot++) {
            Foundrymark x = Workshop.busy();
            x.promise(8);
            x.hold(lot, true);
            CHECK.same("hold(" + lot + ")", x.isSound(), true);
            x.measure(lot, 2000);
            CHECK.same("measure(" + lot + ")", x.isSound(), true);
            x.advance(100);
            CHECK.same("later", x.isSound(), true);
        }
    }
}
