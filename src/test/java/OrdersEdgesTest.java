/** The edges that promises 17 to 21 and 23 to 26 and the term of orders name. */
public final class OrdersEdgesTest {
    private static final Check CHECK = new Check("OrdersEdgesTest");

    public static void main(String[] args) {
        orderingEdges();
        promisingEdges();
        withdrawingEdges();
        releasingEdges();
        scrappingEdges();
        deliveringEdges();
        askingEdges();
        CHECK.close();
    }

    /** The number of an order of busy() in each state, and in none of the others. */
    private static final String BUSY = "fdwdop-f--";

    /** Calls that fail by an order's state do so for each order of busy() in these states alone. */
    private static void onlyIn(String states, OrderCall call) {
        for (int i = 0; i < BUSY.length(); i++) {
            int order = i;
            String what = "order " + order + ", " + BUSY.charAt(i);
            Foundrymark x = Workshop.busy();
            if (states.indexOf((char) ('0' + i)) >= 0) {
                CHECK.works(what, () -> call.with(x, order));
            } else {
                CHECK.fails(what, Check.UNSUPPORTED, () -> call.with(x, order));
            }
        }
        for (int order : new int[] {-1, 10, 30, Integer.MIN_VALUE, Integer.MAX_VALUE}) {
            Foundrymark x = Workshop.busy();
            CHECK.fails("order " + order, Check.INDEX, () -> call.with(x, order));
        }
        Foundrymark full = Workshop.fullOfOrders();
        CHECK.fails("the 31st", Check.INDEX, () -> call.with(full, 30));
    }

    private interface OrderCall {
        void with(Foundrymark x, int order);
    }

    // ---- promise 17

    private static void orderingEdges() {
        promise17NoSuchPart();
        promise17Quantity();
        promise17Option();
        promise17Due();
        promise17NumberOfTheOrder();
        promise17ThirtyOrders();
        promise17NothingIsDone();
    }

    private static void promise17NoSuchPart() {
        CHECK.of("Promise 17: if there is no such part");
        CHECK.range(0, 2, Check.INDEX, n -> Workshop.chain().order(n, 1, 0, 0));
        CHECK.range(0, 11, Check.INDEX, n -> Workshop.fullOfParts().order(n, 1, 0, 0));
        CHECK.fails("out of range", Check.INDEX, () -> Workshop.chain().order(3, 0, 3, -1));
    }

    private static void promise17Quantity() {
        CHECK.of("Promise 17: quantity: the quantity, 1 to 100");
        CHECK.range(1, 100, Check.ARGUMENT, n -> Workshop.chain().order(0, n, 0, 0));
        CHECK.range(1, 100, Check.ARGUMENT, n -> Workshop.chain().order(1, n, 0, 0));
        for (int quantity : new int[] {1, 100}) {
            Foundrymark x = Workshop.shop();
            x.order(1, quantity, 0, 0);
            x.promise(0);
            CHECK.same("withdraw(0)", x.withdraw(0), quantity);
        }
    }

    private static void promise17Option() {
        CHECK.of("Promise 17: option: the option, 0 to 2");
        CHECK.range(0, 2, Check.ARGUMENT, n -> Workshop.chain().order(1, 1, n, 0));
        CHECK.range(0, 2, Check.ARGUMENT, n -> Workshop.chain().order(0, 1, n, 0));
    }

    private static void promise17Due() {
        CHECK.of("Promise 17: due: the due time, 0 to 9999");
        CHECK.range(0, 9999, Check.ARGUMENT, n -> Workshop.chain().order(1, 1, 0, n));
        Foundrymark x = Workshop.machine(1, 0, 500, 1);
        x.advance(100);
        CHECK.works("one that is past", () -> x.order(0, 1, 0, 0));
        for (int due : new int[] {9999, 9998, 1, 0}) {
            Workshop.job(x, 0, 1, due);
        }
        x.advance(10);
        CHECK.same("the first released", x.finishedAt(1), 101);
        CHECK.same("the least first", x.finishedAt(4), 102);
        CHECK.same("then 1", x.finishedAt(3), 103);
        CHECK.same("the most last", x.finishedAt(2), 104);
    }

    private static void promise17NumberOfTheOrder() {
        CHECK.of("Promise 17: Returns the number of the order");
        Foundrymark x = Workshop.chain();
        CHECK.same("the first", x.order(0, 1, 0, 0), 0);
        CHECK.fails("refused", Check.ARGUMENT, () -> x.order(0, 0, 0, 0));
        CHECK.same("the next", x.order(1, 1, 0, 0), 1);
        CHECK.fails("stateOf(2)", Check.INDEX, () -> x.stateOf(2));
    }

    private static void promise17ThirtyOrders() {
        CHECK.of("Promise 17: if there are 30 orders");
        Foundrymark x = Workshop.fullOfOrders();
        CHECK.same("stateOf(29)", x.stateOf(29), '-');
        CHECK.fails("31st", Check.STATE, () -> x.order(1, 1, 0, 0));
        CHECK.fails("31st, of a bought part", Check.STATE, () -> x.order(0, 100, 2, 9999));
        CHECK.fails("31st, out of range", Check.ARGUMENT, () -> x.order(1, 1, 0, 10000));
        CHECK.fails("31st, of no part", Check.INDEX, () -> x.order(2, 1, 0, 0));
        CHECK.same("deliver(0)", x.deliver(0), true);
        CHECK.fails("those delivered count", Check.STATE, () -> x.order(1, 1, 0, 0));
        CHECK.fails("stateOf(30)", Check.INDEX, () -> x.stateOf(30));
        CHECK.same("release(29)", x.release(29), true);
        CHECK.same("stateOf(29)", x.stateOf(29), 'f');
    }

    private static void promise17NothingIsDone() {
        CHECK.of("Promise 17: an order alone reserves and takes nothing");
        Foundrymark x = Workshop.shop();
        x.order(1, 100, 0, 0);
        x.order(0, 100, 0, 0);
        x.advance(10);
        CHECK.same("reserved(0)", x.reserved(0), 0);
        CHECK.same("rest(0)", x.rest(0), 100);
        CHECK.same("stateOf(0)", x.stateOf(0), '-');
        CHECK.same("stateOf(1)", x.stateOf(1), '-');
        CHECK.same("machineIs(0)", x.machineIs(0), '-');
    }

    // ---- promise 18

    private static void promisingEdges() {
        promise18WhichOrders();
        promise18ExactlyEnough();
        promise18ReservesNothingThen();
        promise18ByRisingNumbers();
        promise18NotOfHeldLots();
        promise18NotWhatIsReserved();
        promise18OfTheComponentAlone();
        promise18NothingNeeded();
        promise18SamePartTwice();
        promise18Again();
    }

    private static void promise18WhichOrders() {
        CHECK.of("Promise 18: if its part is bought, or it was promised or released");
        onlyIn("68", (x, order) -> x.promise(order));
    }

    private static void promise18ExactlyEnough() {
        CHECK.of("Promise 18: Returns whether all that it needs is reserved now");
        Foundrymark x = Workshop.shop();
        x.order(1, 99, 0, 0);
        x.order(1, 2, 0, 0);
        x.order(1, 1, 0, 0);
        CHECK.same("99 of 100", x.promise(0), true);
        CHECK.same("2 of 1", x.promise(1), false);
        CHECK.same("1 of 1", x.promise(2), true);
        CHECK.same("2 of 0", x.promise(1), false);
        CHECK.same("reserved(0)", x.reserved(0), 100);
        Foundrymark none = Workshop.chain();
        none.order(1, 1, 0, 0);
        CHECK.same("of no lots", none.promise(0), false);
    }

    private static void promise18ReservesNothingThen() {
        CHECK.of("Terms, Orders: it fails if it does not reach, and reserves nothing then");
        Foundrymark x = Workshop.bought();
        x.addPart(false, 0);
        x.addPart(false, 0);
        x.addPart(true, 0);
        for (int part = 0; part < 3; part++) {
            x.addComponent(3, part, 1, -1);
            x.receive(part, part == 2 ? 5 : 9, 1, 0, 0);
        }
        x.order(3, 6, 0, 0);
        x.order(3, 2, 0, 0);
        CHECK.same("the last component lacks one", x.promise(0), false);
        CHECK.same("reserved", reserved(x), "000");
        CHECK.same("stateOf(0)", x.stateOf(0), '-');
        x.promise(1);
        CHECK.same("it lacks three", x.promise(0), false);
        CHECK.same("what others reserved stays", reserved(x), "222");
        x.receive(2, 3, 1, 1, 0);
        CHECK.same("all reach", x.promise(0), true);
        CHECK.same("reserved", reserved(x), "8853");
    }

    private static void promise18ByRisingNumbers() {
        CHECK.of("Terms, Orders: of the lots of the component, by rising numbers");
        Foundrymark x = Workshop.chain();
        for (int i = 0; i < 4; i++) {
            x.receive(0, 5, 1, 0, 0);
        }
        x.order(1, 5, 0, 0);
        x.order(1, 6, 0, 0);
        x.promise(0);
        CHECK.same("the whole first lot", reserved(x), "5000");
        x.promise(1);
        CHECK.same("the second and one of the third", reserved(x), "5510");
        x.withdraw(0);
        x.order(1, 7, 0, 0);
        x.promise(2);
        CHECK.same("the first again, then the third", reserved(x), "5530");
    }

    private static String reserved(Foundrymark x) {
        StringBuilder all = new StringBuilder();
        for (int lot = 0; lot < x.lots(); lot++) {
            all.append(x.reserved(lot));
        }
        return all.toString();
    }

    private static void promise18NotOfHeldLots() {
        CHECK.of("Terms, Orders: of the lots that are not held");
        Foundrymark x = Workshop.chain();
        x.receive(0, 5, 1, 0, 0);
        x.receive(0, 5, 1, 0, 0);
        Workshop.job(x, 1, 2, 0);
        x.hold(0, true);
        x.order(1, 6, 0, 0);
        x.order(1, 5, 0, 0);
        x.order(2, 1, 0, 0);
        CHECK.same("6 of 5", x.promise(1), false);
        CHECK.same("5 of 5", x.promise(2), true);
        CHECK.same("of a made one that is held", x.promise(3), false);
        x.hold(0, false);
        CHECK.same("held no more", x.promise(3), true);
        CHECK.same("reserved", reserved(x), "051");
    }

    private static void promise18NotWhatIsReserved() {
        CHECK.of("Terms, Orders: what is left of their rests without what is reserved");
        Foundrymark x = Workshop.shop();
        Workshop.job(x, 1, 30, 0);
        x.order(1, 60, 0, 0);
        x.promise(1);
        x.order(1, 11, 0, 0);
        x.order(1, 10, 0, 0);
        CHECK.same("11 of 100 - 30 - 60", x.promise(2), false);
        CHECK.same("10 of 100 - 30 - 60", x.promise(3), true);
        CHECK.same("reserved(0) is the rest", x.reserved(0), x.rest(0));
    }

    private static void promise18OfTheComponentAlone() {
        CHECK.of("Terms, Orders: of the lots of the component");
        Foundrymark x = Workshop.chain();
        x.receive(0, 5, 1, 0, 0);
        x.order(2, 1, 0, 0);
        CHECK.same("its components' components don't count", x.promise(0), false);
        Workshop.job(x, 1, 1, 0);
        CHECK.same("a lot of the component", x.promise(0), true);
        CHECK.same("reserved", reserved(x), "01");
    }

    private static void promise18NothingNeeded() {
        CHECK.of("Promise 18: an order that needs nothing");
        Foundrymark x = Workshop.chain();
        x.addPart(true, 0);
        x.addComponent(3, 0, 1, 1);
        x.order(3, 100, 0, 0);
        x.order(3, 1, 1, 0);
        CHECK.same("no component of its option", x.promise(0), true);
        CHECK.same("stateOf(0)", x.stateOf(0), 'p');
        CHECK.fails("promised", Check.UNSUPPORTED, () -> x.promise(0));
        CHECK.same("one of another option", x.promise(1), false);
        CHECK.same("withdraw(0)", x.withdraw(0), 0);
    }

    private static void promise18SamePartTwice() {
        CHECK.of("Terms, Orders: The same part as two components is needed twice");
        Foundrymark x = Workshop.bought();
        x.addPart(true, 0);
        x.addComponent(1, 0, 2, -1);
        x.addComponent(1, 0, 1, -1);
        x.receive(0, 4, 1, 0, 0);
        x.receive(0, 4, 1, 0, 0);
        x.order(1, 3, 0, 0);
        CHECK.same("9 of 8", x.promise(0), false);
        CHECK.same("reserved", reserved(x), "00");
        x.receive(0, 4, 1, 0, 0);
        CHECK.same("9 of 12", x.promise(0), true);
        CHECK.same("one behind the other", reserved(x), "441");
        x.release(0);
        CHECK.same("all are taken", x.rest(0) + x.rest(1) + x.rest(2), 3);
        CHECK.same("costOf(3)", x.costOf(3), 9);
    }

    private static void promise18Again() {
        CHECK.of("Promise 18: an order whose promise was lost or taken back");
        Foundrymark x = Workshop.shop();
        x.order(1, 5, 0, 0);
        x.promise(0);
        x.withdraw(0);
        CHECK.same("taken back", x.promise(0), true);
        x.hold(0, true);
        CHECK.same("lost, and its lot is held", x.promise(0), false);
        x.hold(0, false);
        CHECK.same("lost", x.promise(0), true);
        CHECK.same("reserved(0)", x.reserved(0), 5);
    }

    // ---- promise 19

    private static void withdrawingEdges() {
        promise19WhichOrders();
        promise19HowManyPieces();
    }

    private static void promise19WhichOrders() {
        CHECK.of("Promise 19: if it is not promised, or released");
        onlyIn("5", (x, order) -> x.withdraw(order));
        Foundrymark x = Workshop.shop();
        x.order(1, 1, 0, 0);
        x.promise(0);
        x.withdraw(0);
        CHECK.fails("taken back already", Check.UNSUPPORTED, () -> x.withdraw(0));
        x.promise(0);
        x.hold(0, true);
        CHECK.fails("lost", Check.UNSUPPORTED, () -> x.withdraw(0));
    }

    private static void promise19HowManyPieces() {
        CHECK.of("Promise 19: Returns how many pieces were reserved");
        Foundrymark x = Workshop.chain();
        x.addComponent(2, 0, 3, -1);
        x.receive(0, 2, 1, 0, 0);
        x.receive(0, 9, 1, 0, 0);
        Workshop.job(x, 1, 2, 0);
        x.order(2, 2, 0, 0);
        x.promise(1);
        CHECK.same("of all lots", x.withdraw(1), 8);
        CHECK.same("none is reserved", reserved(x), "000");
        CHECK.same("no piece is taken", x.rest(1) + x.rest(2), 11);
        CHECK.same("stateOf(1)", x.stateOf(1), '-');
        x.promise(1);
        CHECK.same("again", x.withdraw(1), 8);
    }

    // ---- promise 20

    private static void releasingEdges() {
        promise20WhichOrders();
        promise20NotPromisedAndCannotBe();
        promise20PromisingFirst();
        promise20TakesWhatIsReserved();
        promise20BeginsAtOnce();
        promise20NoOperations();
        promise20NothingNeeded();
    }

    private static void promise20WhichOrders() {
        CHECK.of("Promise 20: if its part is bought, or it was released");
        onlyIn("568", (x, order) -> x.release(order));
    }

    private static void promise20NotPromisedAndCannotBe() {
        CHECK.of("Promise 20: not if it is not promised, and cannot be");
        Foundrymark x = Workshop.shop();
        x.order(1, 99, 0, 0);
        x.order(1, 2, 0, 0);
        x.promise(0);
        CHECK.same("2 of 1", x.release(1), false);
        CHECK.same("stateOf(1)", x.stateOf(1), '-');
        CHECK.same("reserved(0)", x.reserved(0), 99);
        CHECK.same("rest(0)", x.rest(0), 100);
        CHECK.same("machineIs(0)", x.machineIs(0), '-');
        x.withdraw(0);
        CHECK.same("again", x.release(1), true);
    }

    private static void promise20PromisingFirst() {
        CHECK.of("Terms, Orders: promising first, if it was not");
        Foundrymark x = Workshop.shop();
        x.order(1, 100, 0, 0);
        CHECK.same("exactly enough", x.release(0), true);
        CHECK.same("rest(0)", x.rest(0), 0);
        CHECK.same("reserved(0)", x.reserved(0), 0);
        CHECK.same("stateOf(0)", x.stateOf(0), 'o');
    }

    private static void promise20TakesWhatIsReserved() {
        CHECK.of("Terms, Orders: To release an order takes its reserved pieces out of the lots");
        Foundrymark x = Workshop.chain();
        x.receive(0, 5, 1, 0, 0);
        x.receive(0, 5, 2, 0, 0);
        x.order(1, 5, 0, 0);
        x.order(1, 3, 0, 0);
        x.promise(0);
        x.promise(1);
        x.withdraw(0);
        x.release(1);
        CHECK.same("not of the first, that is free again", x.rest(0), 5);
        CHECK.same("of the second", x.rest(1), 2);
        CHECK.same("costOf(2)", x.costOf(2), 6);
        CHECK.same("isIn(0, 2)", x.isIn(0, 2), false);
        CHECK.same("isIn(1, 2)", x.isIn(1, 2), true);
    }

    private static void promise20BeginsAtOnce() {
        CHECK.of("Terms, Jobs: What is released begins, if it can, at once");
        Foundrymark x = Workshop.machine(1, 0, 5, 3);
        Workshop.job(x, 0, 5, 9);
        CHECK.same("on a free machine", x.stateOf(0), 'o');
        Workshop.job(x, 0, 1, 0);
        CHECK.same("on one at work, though due earlier", x.stateOf(1), 'w');
        x.advance(5);
        CHECK.same("machineIs(0)", x.machineIs(0), 'b');
        Workshop.job(x, 0, 1, 5);
        CHECK.same("on a broken one", x.stateOf(2), 'w');
        x.advance(3);
        CHECK.same("it is repaired", x.stateOf(1), 'o');
        x.advance(2);
        Workshop.job(x, 0, 1, 0);
        CHECK.same("on a free one again", x.stateOf(3), 'o');
    }

    private static void promise20NoOperations() {
        CHECK.of("Terms, Jobs: A job whose operations are none is finished as it is released");
        Foundrymark x = Workshop.chain();
        x.receive(0, 9, 4, 0, 0);
        x.order(1, 9, 0, 0);
        x.advance(7);
        CHECK.same("release(0)", x.release(0), true);
        CHECK.same("stateOf(0)", x.stateOf(0), 'f');
        CHECK.same("finishedAt(0)", x.finishedAt(0), 7);
        CHECK.same("lotOf(0)", x.lotOf(0), 1);
        CHECK.same("rest(1)", x.rest(1), 9);
        CHECK.same("costOf(1)", x.costOf(1), 36);
    }

    private static void promise20NothingNeeded() {
        CHECK.of("Promise 20: an order that needs nothing");
        Foundrymark x = new Foundrymark();
        x.addPart(true, 0);
        x.order(0, 100, 0, 0);
        CHECK.same("release(0)", x.release(0), true);
        CHECK.same("rest(0)", x.rest(0), 100);
        CHECK.same("costOf(0)", x.costOf(0), 0);
        CHECK.same("deliver(0)", x.deliver(0), true);
        CHECK.same("deliveredCost(0)", x.deliveredCost(0), 0);
        CHECK.same("isSound()", x.isSound(), true);
    }

    // ---- promise 21

    private static void scrappingEdges() {
        promise21WhichOrders();
        promise21Pieces();
        promise21HowManyAreLeft();
        promise21All();
        promise21Waiting();
        promise21TheirShareStays();
    }

    private static void promise21WhichOrders() {
        CHECK.of("Promise 21: if it is not released, or finished");
        onlyIn("24", (x, order) -> x.scrap(order, 1));
        Foundrymark x = Workshop.busy();
        CHECK.fails("not released, no pieces", Check.UNSUPPORTED, () -> x.scrap(6, 0));
        CHECK.fails("no such order, no pieces", Check.INDEX, () -> x.scrap(10, 0));
    }

    private static void promise21Pieces() {
        CHECK.of("Promise 21: pieces: how many, at least 1; if it does not have so many");
        CHECK.range(1, 5, Check.ARGUMENT, n -> {
            Foundrymark x = Workshop.shop();
            Workshop.job(x, 1, 5, 0);
            x.scrap(0, n);
        });
        CHECK.range(1, 100, Check.ARGUMENT, n -> {
            Foundrymark x = Workshop.shop();
            Workshop.job(x, 1, 100, 0);
            x.scrap(0, n);
        });
    }

    private static void promise21HowManyAreLeft() {
        CHECK.of("Promise 21: Returns how many pieces the job has left");
        Foundrymark x = Workshop.shop();
        Workshop.job(x, 1, 9, 0);
        CHECK.same("2 of 9", x.scrap(0, 2), 7);
        CHECK.fails("8 of 7", Check.ARGUMENT, () -> x.scrap(0, 8));
        CHECK.same("3 of 7", x.scrap(0, 3), 4);
        CHECK.fails("5 of 4", Check.ARGUMENT, () -> x.scrap(0, 5));
        CHECK.same("isSound()", x.isSound(), true);
        x.advance(18);
        CHECK.same("it makes a lot of the pieces that it has", x.rest(1), 4);
        CHECK.same("isSound()", x.isSound(), true);
    }

    private static void promise21All() {
        CHECK.of("Terms, Jobs: without pieces, none, and its cost is lost");
        Foundrymark x = Workshop.shop();
        Workshop.job(x, 1, 4, 0);
        Workshop.job(x, 1, 3, 0);
        CHECK.same("all", x.scrap(0, 4), 0);
        CHECK.fails("1 of 0", Check.ARGUMENT, () -> x.scrap(0, 1));
        CHECK.same("all of another", x.scrap(1, 3), 0);
        CHECK.same("stateOf(0)", x.stateOf(0), 'o');
        x.advance(8);
        CHECK.same("stateOf(0)", x.stateOf(0), 'f');
        CHECK.fails("lotOf(0)", Check.NO_SUCH, () -> x.lotOf(0));
        CHECK.same("finishedAt(0)", x.finishedAt(0), 8);
        CHECK.same("isSound()", x.isSound(), true);
        x.advance(1);
        CHECK.same("at least 1 of time", x.finishedAt(1), 9);
        CHECK.same("lots()", x.lots(), 1);
        CHECK.same("wear(0)", x.wear(0), 0);
        CHECK.same("isSound() when both are lost", x.isSound(), true);
        CHECK.same("nothing to deliver", x.deliver(0), false);
    }

    private static void promise21Waiting() {
        CHECK.of("Terms, Jobs: Pieces of a job can be scrapped, while it is not finished");
        Foundrymark x = Workshop.shop();
        x.addOperation(1, 0, -1, 1);
        Workshop.job(x, 1, 4, 0);
        Workshop.job(x, 1, 4, 9);
        CHECK.same("while it waits", x.scrap(1, 1), 3);
        CHECK.same("while an operation is done", x.scrap(0, 1), 3);
        x.advance(8 + 3);
        CHECK.same("the last one", x.finishedAt(0), 11);
        CHECK.fails("finished", Check.UNSUPPORTED, () -> x.scrap(0, 1));
        x.advance(6);
        CHECK.same("between two", x.scrap(1, 2), 1);
        x.advance(3);
        CHECK.same("finishedAt(1)", x.finishedAt(1), 20);
        CHECK.same("rest(2)", x.rest(2), 1);
        x.deliver(0);
        CHECK.fails("delivered or not", Check.UNSUPPORTED, () -> x.scrap(0, 1));
    }

    private static void promise21TheirShareStays() {
        CHECK.of("Terms, Jobs: their share of the cost stays with the others");
        Foundrymark x = Workshop.shop();
        Workshop.job(x, 1, 10, 0);
        x.scrap(0, 9);
        x.advance(20);
        CHECK.same("rest(1)", x.rest(1), 1);
        CHECK.same("costOf(1)", x.costOf(1), 10 + 20 * 3);
    }

    // ---- promise 23

    private static void deliveringEdges() {
        promise23WhichOrders();
        promise23ExactlyEnough();
        promise23TooFew();
        promise23OwnFirst();
        promise23OthersByRisingNumbers();
        promise23OwnIsHeld();
        promise23NotWhatIsReserved();
        promise23BoughtPart();
        promise23OwnIsUsedUp();
        promise23UpToTheLastLot();
    }

    private static void promise23WhichOrders() {
        CHECK.of("Promise 23: if it was delivered, or its part is made and its job is not finished");
        onlyIn("079", (x, order) -> x.deliver(order));
    }

    private static void promise23ExactlyEnough() {
        CHECK.of("Promise 23: Returns whether it is delivered");
        Foundrymark x = Workshop.bought();
        x.receive(0, 4, 1, 0, 0);
        x.receive(0, 5, 1, 0, 0);
        x.order(0, 10, 0, 0);
        x.order(0, 9, 0, 0);
        x.order(0, 1, 0, 0);
        CHECK.same("10 of 9", x.deliver(0), false);
        CHECK.same("9 of 9", x.deliver(1), true);
        CHECK.same("1 of 0", x.deliver(2), false);
        x.receive(0, 1, 1, 0, 0);
        CHECK.same("1 of 1", x.deliver(2), true);
        CHECK.fails("delivered", Check.UNSUPPORTED, () -> x.deliver(2));
    }

    private static void promise23TooFew() {
        CHECK.of("Promise 23: not if there are too few pieces");
        Foundrymark x = Workshop.bought();
        x.order(0, 3, 0, 0);
        CHECK.same("no lots", x.deliver(0), false);
        x.receive(0, 2, 5, 0, 0);
        CHECK.same("3 of 2", x.deliver(0), false);
        CHECK.same("nothing is taken", x.rest(0), 2);
        CHECK.same("costOf(0)", x.costOf(0), 10);
        CHECK.same("stateOf(0)", x.stateOf(0), '-');
        CHECK.same("touched(0)", x.touched(0), 0);
        CHECK.same("lotsIn(0)", x.lotsIn(0), 0);
        CHECK.fails("deliveredCost(0)", Check.NO_SUCH, () -> x.deliveredCost(0));
        CHECK.fails("inTimeShare()", Check.ARITHMETIC, x::inTimeShare);
        x.receive(0, 1, 5, 0, 0);
        CHECK.same("3 of 3, later", x.deliver(0), true);
    }

    private static void promise23OwnFirst() {
        CHECK.of("Terms, Delivering: the one that its job made first");
        Foundrymark x = Workshop.chain();
        x.receive(0, 9, 1, 0, 0);
        for (int i = 0; i < 3; i++) {
            Workshop.job(x, 1, 3, 0);
        }
        x.deliver(1);
        CHECK.same("not the lowest", x.rest(1), 3);
        CHECK.same("its own", x.rest(2), 0);
        CHECK.same("nor the highest", x.rest(3), 3);
        x.deliver(2);
        CHECK.same("the last one's own", x.rest(3), 0);
    }

    private static void promise23OthersByRisingNumbers() {
        CHECK.of("Terms, Delivering: then the others by rising numbers");
        Foundrymark x = Workshop.machine(0, 0, 500, 1);
        int[] scrapped = {1, 0, 2, 1};
        for (int i = 0; i < 4; i++) {
            Workshop.job(x, 0, 4, 0);
            if (scrapped[i] > 0) {
                x.scrap(i, scrapped[i]);
            }
        }
        x.advance(50);
        CHECK.same("deliver(3)", x.deliver(3), true);
        CHECK.same("all of its own", x.rest(3), 0);
        CHECK.same("then of the first", x.rest(0), 2);
        CHECK.same("deliver(2)", x.deliver(2), true);
        CHECK.same("the rest of the first", x.rest(0), 0);
        CHECK.same("and none of the second", x.rest(1), 4);
        CHECK.same("lotsIn(2)", x.lotsIn(2), 2);
    }

    private static void promise23OwnIsHeld() {
        CHECK.of("Terms, Delivering: that are not held");
        Foundrymark x = Workshop.chain();
        x.receive(0, 3, 1, 0, 0);
        x.receive(0, 9, 1, 0, 0);
        Workshop.job(x, 1, 3, 0);
        Workshop.job(x, 1, 3, 0);
        x.hold(0, true);
        CHECK.same("its own is held, another one is not", x.deliver(0), true);
        CHECK.same("rest(2)", x.rest(2), 3);
        CHECK.same("rest(3)", x.rest(3), 0);
        CHECK.same("all that is left is held", x.deliver(1), false);
        x.hold(0, false);
        CHECK.same("held no more", x.deliver(1), true);
        CHECK.same("rest(2)", x.rest(2), 0);
    }

    private static void promise23NotWhatIsReserved() {
        CHECK.of("Terms, Delivering: of what is not reserved");
        Foundrymark x = Workshop.chain();
        x.receive(0, 9, 1, 0, 0);
        Workshop.job(x, 1, 4, 0);
        x.order(2, 1, 0, 0);
        x.promise(1);
        CHECK.same("4 of 3", x.deliver(0), false);
        Workshop.job(x, 1, 1, 0);
        CHECK.same("3 and 1 of another", x.deliver(0), true);
        CHECK.same("the reserved one stays", x.rest(1), 1);
        CHECK.same("reserved(1)", x.reserved(1), 1);
        CHECK.same("the other is used up", x.rest(2), 0);
        CHECK.same("release(1)", x.release(1), true);
        CHECK.same("isSound()", x.isSound(), true);
    }

    private static void promise23BoughtPart() {
        CHECK.of("Terms, Delivering: An order of a bought part is delivered by rising numbers");
        Foundrymark x = Workshop.chain();
        x.receive(0, 3, 1, 0, 0);
        x.receive(0, 3, 1, 0, 3);
        x.receive(0, 3, 1, 0, 0);
        x.receive(0, 3, 1, 1, 0);
        x.order(1, 2, 0, 0);
        x.promise(0);
        x.order(0, 6, 0, 0);
        x.deliver(1);
        CHECK.same("without what is reserved", x.rest(0), 2);
        CHECK.same("without what is held", x.rest(1), 3);
        CHECK.same("the third", x.rest(2), 0);
        CHECK.same("the fourth", x.rest(3), 1);
        CHECK.fails("promise(1)", Check.UNSUPPORTED, () -> x.promise(1));
        CHECK.fails("release(1)", Check.UNSUPPORTED, () -> x.release(1));
    }

    private static void promise23OwnIsUsedUp() {
        CHECK.of("Terms, Delivering: the lot that its job made is used up by others");
        Foundrymark x = Workshop.chain();
        x.receive(0, 9, 1, 0, 0);
        Workshop.job(x, 1, 2, 0);
        Workshop.job(x, 2, 2, 0);
        CHECK.same("none is left", x.deliver(0), false);
        CHECK.same("stateOf(0)", x.stateOf(0), 'f');
        Workshop.job(x, 1, 2, 0);
        CHECK.same("of the others alone", x.deliver(0), true);
        CHECK.same("lotsIn(0)", x.lotsIn(0), 2);
        CHECK.same("isIn: touched(1)", x.touched(1), 0);
    }

    private static void promise23UpToTheLastLot() {
        CHECK.of("Terms, Delivering: then the others by rising numbers, up to the 90th");
        Foundrymark x = Workshop.fullOfLots();
        for (int i = 0; i < 29; i++) {
            Workshop.job(x, 1, 1, 0);
        }
        Workshop.job(x, 1, 29, 0);
        x.hold(89, true);
        x.hold(88, true);
        CHECK.same("the last but one is held too", x.deliver(29), false);
        x.hold(88, false);
        CHECK.same("all others are needed", x.deliver(29), true);
        CHECK.same("rest(60)", x.rest(60), 0);
        CHECK.same("rest(88)", x.rest(88), 0);
        CHECK.same("rest(89)", x.rest(89), 29);
        CHECK.same("deliveredCost(29)", x.deliveredCost(29), 29 * 3);
        CHECK.same("29 made ones of 15 bought ones", x.lotsIn(29), 44);
        CHECK.same("touched(88)", x.touched(88), 1);
        CHECK.same("touched(89)", x.touched(89), 0);
        CHECK.same("touched(14)", x.touched(14), 1);
        CHECK.same("touched(15)", x.touched(15), 0);
        CHECK.same("isSound()", x.isSound(), true);
    }

    // ---- promises 24 to 26

    private static void askingEdges() {
        promise24NoSuchOrder();
        promise24EachState();
        promise25NoSuchOrder();
        promise25MadeNone();
        promise26NoSuchOrder();
        promise26IsNot();
        promise26AtTheTime();
    }

    private static void promise24NoSuchOrder() {
        CHECK.of("Promise 24: if there is no such order");
        Foundrymark x = Workshop.busy();
        CHECK.range(0, 9, Check.INDEX, x::stateOf);
        Foundrymark full = Workshop.fullOfOrders();
        CHECK.range(0, 29, Check.INDEX, full::stateOf);
    }

    private static void promise24EachState() {
        CHECK.of("Promise 24: '-', 'p', 'w', 'o', 'f', 'd'");
        Foundrymark x = Workshop.busy();
        for (int order = 0; order < BUSY.length(); order++) {
            CHECK.same("stateOf(" + order + ")", x.stateOf(order), BUSY.charAt(order));
        }
        Foundrymark y = Workshop.shop();
        y.order(1, 1, 0, 0);
        y.promise(0);
        CHECK.same("promised", y.stateOf(0), 'p');
        y.withdraw(0);
        CHECK.same("taken back", y.stateOf(0), '-');
        y.release(0);
        y.advance(1);
        CHECK.same("just before the end", y.stateOf(0), 'o');
        y.advance(1);
        CHECK.same("at the end", y.stateOf(0), 'f');
    }

    private static void promise25NoSuchOrder() {
        CHECK.of("Promise 25: if there is no such order");
        Foundrymark x = Workshop.busy();
        CHECK.outside(0, 9, Check.INDEX, x::lotOf);
        Foundrymark full = Workshop.fullOfOrders();
        CHECK.outside(0, 29, Check.INDEX, full::lotOf);
    }

    private static void promise25MadeNone() {
        CHECK.of("Promise 25: if it made none");
        Foundrymark x = Workshop.busy();
        for (int order : new int[] {2, 3, 4, 5, 6, 8, 9}) {
            CHECK.fails("order " + order, Check.NO_SUCH, () -> x.lotOf(order));
        }
        CHECK.same("finished", x.lotOf(0), 13);
        CHECK.same("delivered", x.lotOf(1), 12);
        CHECK.same("finished as it was released", x.lotOf(7), 14);
    }

    private static void promise26NoSuchOrder() {
        CHECK.of("Promise 26: if there is no such order");
        Foundrymark x = Workshop.busy();
        CHECK.outside(0, 9, Check.INDEX, x::finishedAt);
        Foundrymark full = Workshop.fullOfOrders();
        CHECK.outside(0, 29, Check.INDEX, full::finishedAt);
    }

    private static void promise26IsNot() {
        CHECK.of("Promise 26: if it is not");
        Foundrymark x = Workshop.busy();
        for (int order : new int[] {2, 3, 4, 5, 6, 8, 9}) {
            CHECK.fails("order " + order, Check.NO_SUCH, () -> x.finishedAt(order));
        }
        Foundrymark y = Workshop.shop();
        Workshop.job(y, 1, 1, 0);
        y.advance(1);
        CHECK.fails("just before", Check.NO_SUCH, () -> y.finishedAt(0));
        y.advance(1);
        CHECK.works("at the end", () -> y.finishedAt(0));
    }

    private static void promise26AtTheTime() {
        CHECK.of("Promise 26: Returns the time");
        Foundrymark x = Workshop.busy();
        CHECK.same("finished", x.finishedAt(0), 11);
        CHECK.same("delivered later", x.finishedAt(1), 5);
        CHECK.same("as it was released", x.finishedAt(7), 12);
        x.advance(100);
        CHECK.same("it stays", x.finishedAt(0), 11);
        Foundrymark y = Workshop.shop();
        Workshop.pass(y, 4990);
        Workshop.job(y, 1, 5, 0);
        y.advance(10);
        CHECK.same("the last time", y.finishedAt(0), 5000);
    }
}
