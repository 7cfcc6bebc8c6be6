import java.util.function.Consumer;
import java.util.function.Supplier;

/**
 * Terms, Exceptions: a method that throws an exception changes nothing, and of several that
 * apply the one that is listed first is thrown. Each refused call is made on one of two equal
 * factories: both must answer the same behind it, and go on alike.
 */
public final class RefusedCallsTest {
    private static final Check CHECK = new Check("RefusedCallsTest");
    private static final Supplier<Foundrymark> BUSY = Workshop::busy;
    private static final Supplier<Foundrymark> PARTS = Workshop::fullOfParts;
    private static final Supplier<Foundrymark> LOTS = Workshop::fullOfLots;
    private static final Supplier<Foundrymark> ORDERS = Workshop::fullOfOrders;
    private static final Supplier<Foundrymark> LATE = Workshop::late;
    private static final Supplier<Foundrymark> NEW = Foundrymark::new;
    private static final int[] FAR = {Integer.MIN_VALUE, -1, 99, Integer.MAX_VALUE};

    public static void main(String[] args) {
        promises2And3();
        promise4();
        promise5();
        promise6();
        promises7To9();
        promises10And11();
        promise17();
        promises18To21();
        promise22();
        promises23To26();
        promises27To29();
        promises30To35();
        askingChangesNothing();
        promisesThatFailChangeNothing();
        CHECK.close();
    }

    private static void refused(String what, Class<? extends RuntimeException> kind,
            Supplier<Foundrymark> make, Consumer<Foundrymark> call) {
        Foundrymark x = make.get();
        CHECK.fails(what, kind, () -> call.accept(x));
        same(what, make, call);
    }

    /** The call, once and once more, leaves all answers, and all that comes later, as they were. */
    private static void same(String what, Supplier<Foundrymark> make, Consumer<Foundrymark> call) {
        CHECK.same(what + ", all answers", Answers.asked(after(make, call)),
                Answers.asked(make.get()));
        CHECK.same(what + ", what comes later", Answers.later(after(make, call)),
                Answers.later(make.get()));
    }

    private static Foundrymark after(Supplier<Foundrymark> make, Consumer<Foundrymark> call) {
        Foundrymark x = make.get();
        for (int i = 0; i < 2; i++) {
            try {
                call.accept(x);
            } catch (RuntimeException e) {
                // Which one it is, refused() tells.
                continue;
            }
        }
        return x;
    }

    private static void promises2And3() {
        CHECK.of("Promise 2: a refused addMachine");
        refused("rate", Check.ARGUMENT, BUSY, x -> x.addMachine(21, 0, 5, 1));
        refused("setup", Check.ARGUMENT, BUSY, x -> x.addMachine(0, 51, 5, 1));
        refused("life", Check.ARGUMENT, BUSY, x -> x.addMachine(0, 0, 4, 1));
        refused("repair", Check.ARGUMENT, BUSY, x -> x.addMachine(0, 0, 5, 0));
        refused("6th", Check.STATE, PARTS, x -> x.addMachine(0, 0, 5, 1));
        refused("6th, out of range", Check.ARGUMENT, PARTS, x -> x.addMachine(-1, 0, 5, 1));
        CHECK.of("Promise 3: a refused addPart");
        refused("family", Check.ARGUMENT, BUSY, x -> x.addPart(true, 4));
        refused("13th", Check.STATE, PARTS, x -> x.addPart(true, 0));
        refused("13th, family", Check.ARGUMENT, PARTS, x -> x.addPart(false, -1));
        refused("the first", Check.ARGUMENT, NEW, x -> x.addPart(false, 4));
    }

    private static void promise4() {
        CHECK.of("Promise 4: a refused addComponent");
        for (int far : FAR) {
            refused("part " + far, Check.INDEX, BUSY, x -> x.addComponent(far, 0, 1, 0));
            refused("component " + far, Check.INDEX, BUSY, x -> x.addComponent(2, far, 1, 0));
            refused("pieces " + far, Check.ARGUMENT, BUSY, x -> x.addComponent(2, 0, far, 0));
            int option = far == -1 ? -2 : far;
            refused("option " + option, Check.ARGUMENT, BUSY,
                    x -> x.addComponent(2, 0, 1, option));
            refused("bought, component " + far, Check.INDEX, BUSY,
                    x -> x.addComponent(0, far, 0, 3));
            refused("full, component " + far, Check.INDEX, PARTS,
                    x -> x.addComponent(11, far, 0, 3));
        }
        refused("bought", Check.UNSUPPORTED, BUSY, x -> x.addComponent(1, 0, 1, 0));
        refused("bought, pieces", Check.UNSUPPORTED, BUSY, x -> x.addComponent(1, 0, 0, 0));
        refused("no lower number", Check.UNSUPPORTED, BUSY, x -> x.addComponent(2, 2, 1, 0));
        refused("higher, option", Check.UNSUPPORTED, BUSY, x -> x.addComponent(2, 5, 1, 3));
        refused("5th", Check.STATE, PARTS, x -> x.addComponent(11, 0, 1, 0));
        refused("5th, pieces", Check.ARGUMENT, PARTS, x -> x.addComponent(11, 0, 10, 0));
        refused("5th, option", Check.ARGUMENT, PARTS, x -> x.addComponent(11, 0, 1, -2));
        refused("5th, itself", Check.UNSUPPORTED, PARTS, x -> x.addComponent(11, 11, 1, 0));
    }

    private static void promise5() {
        CHECK.of("Promise 5: a refused addOperation");
        for (int far : FAR) {
            int other = far == -1 ? -2 : far;
            refused("part " + far, Check.INDEX, BUSY, x -> x.addOperation(far, 0, -1, 1));
            refused("machine " + far, Check.INDEX, BUSY, x -> x.addOperation(2, far, -1, 1));
            refused("alternative " + other, Check.INDEX, BUSY,
                    x -> x.addOperation(2, 0, other, 1));
            refused("time " + far, Check.ARGUMENT, BUSY, x -> x.addOperation(2, 0, -1, far));
            refused("bought, machine " + far, Check.INDEX, BUSY,
                    x -> x.addOperation(0, far, -1, 0));
            refused("bought, alternative " + other, Check.INDEX, BUSY,
                    x -> x.addOperation(0, 0, other, 0));
            refused("full, alternative " + other, Check.INDEX, PARTS,
                    x -> x.addOperation(11, 0, other, 0));
        }
        refused("bought", Check.UNSUPPORTED, BUSY, x -> x.addOperation(0, 0, -1, 1));
        refused("bought, time", Check.UNSUPPORTED, BUSY, x -> x.addOperation(0, 0, -1, 21));
        refused("time", Check.ARGUMENT, BUSY, x -> x.addOperation(2, 0, -1, 21));
        refused("4th", Check.STATE, PARTS, x -> x.addOperation(11, 0, -1, 1));
        refused("4th, time", Check.ARGUMENT, PARTS, x -> x.addOperation(11, 0, -1, 0));
    }

    private static void promise6() {
        CHECK.of("Promise 6: a refused receive");
        for (int far : FAR) {
            refused("part " + far, Check.INDEX, BUSY, x -> x.receive(far, 1, 1, 0, 3));
            refused("part " + far + ", all", Check.INDEX, LOTS, x -> x.receive(far, 0, 0, 9, 99));
            refused("supplier " + far, Check.ARGUMENT, BUSY, x -> x.receive(0, 1, 1, far, 3));
            refused("bad " + far, Check.ARGUMENT, BUSY, x -> x.receive(0, 1, 1, 0, far));
        }
        for (int supplier = 0; supplier < 4; supplier++) {
            int s = supplier;
            refused("made", Check.UNSUPPORTED, BUSY, x -> x.receive(2, 1, 1, s, 5));
            refused("quantity 0", Check.ARGUMENT, BUSY, x -> x.receive(0, 0, 1, s, 5));
            refused("quantity 501", Check.ARGUMENT, BUSY, x -> x.receive(0, 501, 1, s, 0));
            refused("cost -1", Check.ARGUMENT, BUSY, x -> x.receive(0, 1, -1, s, 5));
            refused("cost 1000", Check.ARGUMENT, BUSY, x -> x.receive(0, 1, 1000, s, 0));
            refused("bad 21", Check.ARGUMENT, BUSY, x -> x.receive(0, 1, 1, s, 21));
            refused("61st", Check.STATE, LOTS, x -> x.receive(0, 1, 1, s, 5));
            refused("61st, good", Check.STATE, LOTS, x -> x.receive(0, 1, 1, s, 0));
        }
        refused("made, quantity", Check.UNSUPPORTED, BUSY, x -> x.receive(2, 0, 1, 0, 0));
        refused("made, supplier", Check.UNSUPPORTED, BUSY, x -> x.receive(2, 1, 1, 4, 0));
        refused("61st, made", Check.UNSUPPORTED, LOTS, x -> x.receive(1, 1, 1, 0, 0));
        refused("61st, cost", Check.ARGUMENT, LOTS, x -> x.receive(0, 1, 1000, 0, 0));
        refused("61st, supplier", Check.ARGUMENT, LOTS, x -> x.receive(0, 1, 1, 4, 0));
    }

    private static void promises7To9() {
        CHECK.of("Promises 7 to 9: a refused rule, hold or isHeld");
        for (int far : FAR) {
            refused("rule " + far, Check.INDEX, BUSY, x -> x.rule(far));
            refused("hold " + far, Check.INDEX, BUSY, x -> x.hold(far, true));
            refused("hold no more " + far, Check.INDEX, BUSY, x -> x.hold(far, false));
            refused("isHeld " + far, Check.INDEX, BUSY, x -> x.isHeld(far));
        }
        refused("rule 4", Check.INDEX, BUSY, x -> x.rule(4));
        refused("hold 15", Check.INDEX, BUSY, x -> x.hold(15, true));
        refused("hold 60", Check.INDEX, LOTS, x -> x.hold(60, true));
    }

    private static void promises10And11() {
        CHECK.of("Promises 10 and 11: a refused setChart or measure");
        for (int far : FAR) {
            refused("part " + far, Check.INDEX, BUSY, x -> x.setChart(far, 100, 10));
            refused("part " + far + ", all", Check.INDEX, BUSY, x -> x.setChart(far, -1, -1));
            refused("lot " + far, Check.INDEX, BUSY, x -> x.measure(far, 2000));
            refused("lot " + far + ", value", Check.INDEX, BUSY, x -> x.measure(far, 2001));
        }
        refused("centre -1", Check.ARGUMENT, BUSY, x -> x.setChart(0, -1, 10));
        refused("centre 1001", Check.ARGUMENT, BUSY, x -> x.setChart(0, 1001, 10));
        refused("width -1", Check.ARGUMENT, BUSY, x -> x.setChart(0, 0, -1));
        refused("width 501", Check.ARGUMENT, BUSY, x -> x.setChart(0, 0, 501));
        refused("width 501, other part", Check.ARGUMENT, BUSY, x -> x.setChart(1, 0, 501));
        refused("value -1", Check.ARGUMENT, BUSY, x -> x.measure(0, -1));
        refused("value 2001", Check.ARGUMENT, BUSY, x -> x.measure(0, 2001));
        refused("most", Check.ARGUMENT, BUSY, x -> x.measure(0, Integer.MAX_VALUE));
        refused("least", Check.ARGUMENT, BUSY, x -> x.measure(4, Integer.MIN_VALUE));
    }

    private static void promise17() {
        CHECK.of("Promise 17: a refused order");
        for (int far : FAR) {
            refused("part " + far, Check.INDEX, BUSY, x -> x.order(far, 1, 0, 0));
            refused("option " + far, Check.ARGUMENT, BUSY, x -> x.order(2, 1, far, 0));
            refused("full, part " + far, Check.INDEX, ORDERS, x -> x.order(far, 0, 3, -1));
        }
        refused("part, all", Check.INDEX, BUSY, x -> x.order(6, 0, 3, -1));
        refused("quantity 0", Check.ARGUMENT, BUSY, x -> x.order(2, 0, 0, 0));
        refused("quantity 101", Check.ARGUMENT, BUSY, x -> x.order(2, 101, 0, 0));
        refused("option 3", Check.ARGUMENT, BUSY, x -> x.order(2, 1, 3, 0));
        refused("due -1", Check.ARGUMENT, BUSY, x -> x.order(2, 1, 0, -1));
        refused("due 10000", Check.ARGUMENT, BUSY, x -> x.order(2, 1, 0, 10000));
        refused("31st", Check.STATE, ORDERS, x -> x.order(1, 1, 0, 0));
        refused("31st, quantity", Check.ARGUMENT, ORDERS, x -> x.order(1, 0, 0, 0));
        refused("31st, due", Check.ARGUMENT, ORDERS, x -> x.order(1, 1, 0, -1));
    }

    /** The orders of busy() in any state but these. */
    private static void otherOrders(String states, OrderCall call, String what) {
        for (int i = 0; i < 10; i++) {
            int order = i;
            if (states.indexOf((char) ('0' + i)) < 0) {
                refused(what + " " + order, Check.UNSUPPORTED, BUSY, x -> call.with(x, order));
            }
        }
        for (int far : new int[] {Integer.MIN_VALUE, -1, 10, 30, Integer.MAX_VALUE}) {
            refused(what + " " + far, Check.INDEX, BUSY, x -> call.with(x, far));
        }
        refused(what + " 30", Check.INDEX, ORDERS, x -> call.with(x, 30));
        refused(what + " of none", Check.INDEX, NEW, x -> call.with(x, 0));
    }

    private interface OrderCall {
        void with(Foundrymark x, int order);
    }

    private static void promises18To21() {
        CHECK.of("Promise 18: a refused promise");
        otherOrders("68", Foundrymark::promise, "promise");
        CHECK.of("Promise 19: a refused withdraw");
        otherOrders("5", Foundrymark::withdraw, "withdraw");
        CHECK.of("Promise 20: a refused release");
        otherOrders("568", Foundrymark::release, "release");
        CHECK.of("Promise 21: a refused scrap");
        otherOrders("24", (x, order) -> x.scrap(order, 1), "scrap");
        otherOrders("24", (x, order) -> x.scrap(order, 0), "scrap nothing of");
        for (int pieces : new int[] {Integer.MIN_VALUE, -1, 0, 5, 6, Integer.MAX_VALUE}) {
            refused("scrap of 4: " + pieces, Check.ARGUMENT, BUSY, x -> x.scrap(4, pieces));
        }
        for (int pieces : new int[] {Integer.MIN_VALUE, -1, 0, 3, Integer.MAX_VALUE}) {
            refused("scrap of 2: " + pieces, Check.ARGUMENT, BUSY, x -> x.scrap(2, pieces));
        }
    }

    private static void promise22() {
        CHECK.of("Promise 22: a refused advance");
        for (int by : new int[] {Integer.MIN_VALUE, -1, 0, 501, Integer.MAX_VALUE}) {
            refused("by " + by, Check.ARGUMENT, BUSY, x -> x.advance(by));
            refused("late, by " + by, Check.ARGUMENT, LATE, x -> x.advance(by));
        }
        refused("to 5001", Check.STATE, LATE, x -> x.advance(2));
        refused("to 5499", Check.STATE, LATE, x -> x.advance(500));
        Supplier<Foundrymark> end = () -> {
            Foundrymark x = Workshop.late();
            x.advance(1);
            return x;
        };
        refused("at 5000", Check.STATE, end, x -> x.advance(1));
    }

    private static void promises23To26() {
        CHECK.of("Promise 23: a refused deliver");
        otherOrders("079", Foundrymark::deliver, "deliver");
        CHECK.of("Promises 24 to 26: a refused stateOf, lotOf or finishedAt");
        for (int far : new int[] {Integer.MIN_VALUE, -1, 10, 30, Integer.MAX_VALUE}) {
            refused("stateOf " + far, Check.INDEX, BUSY, x -> x.stateOf(far));
            refused("lotOf " + far, Check.INDEX, BUSY, x -> x.lotOf(far));
            refused("finishedAt " + far, Check.INDEX, BUSY, x -> x.finishedAt(far));
        }
        for (int order : new int[] {2, 3, 4, 5, 6, 8, 9}) {
            refused("lotOf " + order, Check.NO_SUCH, BUSY, x -> x.lotOf(order));
            refused("finishedAt " + order, Check.NO_SUCH, BUSY, x -> x.finishedAt(order));
        }
    }

    private static void promises27To29() {
        CHECK.of("Promises 27 to 29: a refused machineIs, wear or waiting");
        for (int far : new int[] {Integer.MIN_VALUE, -1, 3, 5, Integer.MAX_VALUE}) {
            refused("machineIs " + far, Check.INDEX, BUSY, x -> x.machineIs(far));
            refused("wear " + far, Check.INDEX, BUSY, x -> x.wear(far));
            refused("waiting " + far, Check.INDEX, BUSY, x -> x.waiting(far));
        }
    }

    private static void promises30To35() {
        CHECK.of("Promises 30 to 33: a refused isIn, touched, lotsIn or deliveredCost");
        for (int far : FAR) {
            refused("isIn " + far, Check.INDEX, BUSY, x -> x.isIn(far, 0));
            refused("isIn other " + far, Check.INDEX, BUSY, x -> x.isIn(0, far));
            refused("touched " + far, Check.INDEX, BUSY, x -> x.touched(far));
            refused("lotsIn " + far, Check.INDEX, BUSY, x -> x.lotsIn(far));
            refused("deliveredCost " + far, Check.INDEX, BUSY, x -> x.deliveredCost(far));
        }
        for (int order : new int[] {0, 2, 4, 5, 6, 7, 8, 9}) {
            refused("deliveredCost " + order, Check.NO_SUCH, BUSY, x -> x.deliveredCost(order));
        }
        CHECK.of("Promises 34 and 35: a refused inTimeShare or meanBusy");
        refused("inTimeShare", Check.ARITHMETIC, ORDERS, Foundrymark::inTimeShare);
        refused("inTimeShare", Check.ARITHMETIC, NEW, Foundrymark::inTimeShare);
        refused("meanBusy", Check.ARITHMETIC, ORDERS, Foundrymark::meanBusy);
        refused("meanBusy", Check.ARITHMETIC, NEW, Foundrymark::meanBusy);
    }

    /** Asks a busy factory about each of so many numbers. */
    private static void asked(String what, int most, OrderCall call) {
        same(what, BUSY, x -> {
            for (int i = 0; i < most; i++) {
                try {
                    call.with(x, i);
                } catch (RuntimeException e) {
                    // Some numbers have no answer; this must change nothing too.
                    continue;
                }
            }
        });
    }

    private static void askingChangesNothing() {
        CHECK.of("Promises 7 to 36: what is asked alone changes nothing");
        asked("rule", 4, Foundrymark::rule);
        asked("isHeld", 15, Foundrymark::isHeld);
        asked("lots", 1, (x, i) -> x.lots());
        asked("partOf", 15, Foundrymark::partOf);
        asked("rest", 15, Foundrymark::rest);
        asked("reserved", 15, Foundrymark::reserved);
        asked("costOf", 15, Foundrymark::costOf);
        asked("stateOf", 10, Foundrymark::stateOf);
        asked("lotOf", 10, Foundrymark::lotOf);
        asked("finishedAt", 10, Foundrymark::finishedAt);
        asked("machineIs", 3, Foundrymark::machineIs);
        asked("wear", 3, Foundrymark::wear);
        asked("waiting", 3, Foundrymark::waiting);
        asked("isIn", 15, (x, i) -> x.isIn(i, 14));
        asked("isIn", 15, (x, i) -> x.isIn(0, i));
        asked("touched", 15, Foundrymark::touched);
        asked("lotsIn", 10, Foundrymark::lotsIn);
        asked("deliveredCost", 10, Foundrymark::deliveredCost);
        asked("inTimeShare", 1, (x, i) -> x.inTimeShare());
        asked("meanBusy", 1, (x, i) -> x.meanBusy());
        asked("isSound", 1, (x, i) -> x.isSound());
    }

    private static void promisesThatFailChangeNothing() {
        CHECK.of("Promises 18, 20 and 23: a promise, a release, a delivery that fails");
        Supplier<Foundrymark> lacking = () -> {
            Foundrymark x = Workshop.busy();
            x.order(2, 100, 1, 0);
            x.order(1, 86, 0, 0);
            return x;
        };
        CHECK.same("promise", lacking.get().promise(10), false);
        same("promise", lacking, x -> x.promise(10));
        CHECK.same("release", lacking.get().release(10), false);
        same("release", lacking, x -> x.release(10));
        CHECK.same("deliver", lacking.get().deliver(11), false);
        same("deliver", lacking, x -> x.deliver(11));
        CHECK.same("deliver, made", lacking.get().deliver(0), false);
        same("deliver, made", lacking, x -> x.deliver(0));
    }
}
