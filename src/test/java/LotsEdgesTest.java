/** The edges that promises 6 to 16 and the terms of lots, costs and charts name. */
public final class LotsEdgesTest {
    private static final Check CHECK = new Check("LotsEdgesTest");

    public static void main(String[] args) {
        receivingEdges();
        rulesOfInspection();
        holdingEdges();
        chartEdges();
        measuringEdges();
        askingEdges();
        costEdges();
        CHECK.close();
    }

    // ---- promises 6 and 7

    private static void receivingEdges() {
        promise6NoSuchPart();
        promise6MadePart();
        promise6Quantity();
        promise6Cost();
        promise6Supplier();
        promise6Bad();
        promise6NumberOfTheLot();
        promise6SixtyLots();
        promise6MadeLotsDoNotCount();
        promise7NoSuchSupplier();
        promise7NormalAtFirst();
    }

    private static void promise6NoSuchPart() {
        CHECK.of("Promise 6: if there is no such part");
        CHECK.range(0, 0, Check.INDEX, n -> Workshop.bought().receive(n, 1, 1, 0, 0));
        Foundrymark x = Workshop.fullOfParts();
        CHECK.outside(0, 11, Check.INDEX, n -> x.receive(n, 1, 1, 0, 0));
    }

    private static void promise6MadePart() {
        CHECK.of("Promise 6: if it is made");
        Foundrymark x = Workshop.chain();
        CHECK.fails("made", Check.UNSUPPORTED, () -> x.receive(1, 1, 1, 0, 0));
        CHECK.fails("made, out of range", Check.UNSUPPORTED, () -> x.receive(2, 0, -1, 4, 21));
        CHECK.same("bought", x.receive(0, 1, 1, 0, 0), 0);
    }

    private static void promise6Quantity() {
        CHECK.of("Promise 6: quantity: the quantity, 1 to 500");
        CHECK.range(1, 500, Check.ARGUMENT, n -> Workshop.bought().receive(0, n, 1, 0, 0));
        for (int quantity : new int[] {1, 500}) {
            Foundrymark x = Workshop.bought();
            x.receive(0, quantity, 1, 0, 0);
            CHECK.same("rest(0)", x.rest(0), quantity);
        }
    }

    private static void promise6Cost() {
        CHECK.of("Promise 6: cost: the cost of a piece, 0 to 999");
        CHECK.range(0, 999, Check.ARGUMENT, n -> Workshop.bought().receive(0, 1, n, 0, 0));
        for (int cost : new int[] {0, 1, 999}) {
            Foundrymark x = Workshop.bought();
            x.receive(0, 500, cost, 0, 0);
            CHECK.same("costOf(0)", x.costOf(0), 500L * cost);
        }
    }

    private static void promise6Supplier() {
        CHECK.of("Promise 6: supplier: the supplier, 0 to 3");
        CHECK.range(0, 3, Check.ARGUMENT, n -> Workshop.bought().receive(0, 1, 1, n, 0));
    }

    private static void promise6Bad() {
        CHECK.of("Promise 6: bad: how many bad pieces were found, 0 to 20");
        CHECK.range(0, 20, Check.ARGUMENT, n -> Workshop.bought().receive(0, 1, 1, 0, n));
        CHECK.same("the least is accepted, the most refused", rules(Workshop.bought(), 0, 20),
                ".n!n");
        Foundrymark x = Workshop.bought();
        CHECK.same("more bad pieces than pieces", x.receive(0, 1, 1, 0, 2), 0);
        CHECK.same("are accepted by the rule", x.isHeld(0), false);
    }

    private static void promise6NumberOfTheLot() {
        CHECK.of("Promise 6: Returns the number of the lot");
        Foundrymark x = Workshop.chain();
        CHECK.same("the first", x.receive(0, 5, 1, 0, 0), 0);
        CHECK.fails("refused", Check.ARGUMENT, () -> x.receive(0, 0, 1, 0, 0));
        CHECK.same("one that is put on hold counts", x.receive(0, 5, 1, 0, 3), 1);
        Workshop.job(x, 1, 2, 0);
        CHECK.same("bought and made ones count together", x.lotOf(0), 2);
        CHECK.same("the next", x.receive(0, 5, 1, 3, 0), 3);
    }

    private static void promise6SixtyLots() {
        CHECK.of("Promise 6: if there are 60 bought lots");
        Foundrymark x = Workshop.fullOfLots();
        CHECK.same("60 are there", x.lots(), 60);
        for (int supplier = 0; supplier < 4; supplier++) {
            int s = supplier;
            CHECK.fails("61st", Check.STATE, () -> x.receive(0, 1, 1, s, 0));
        }
        CHECK.fails("61st, out of range", Check.ARGUMENT, () -> x.receive(0, 501, 1, 0, 0));
        CHECK.fails("61st, of a made part", Check.UNSUPPORTED, () -> x.receive(1, 1, 1, 0, 0));
        CHECK.fails("61st, of no part", Check.INDEX, () -> x.receive(2, 1, 1, 0, 0));
        CHECK.same("none came", x.lots(), 60);
        x.order(0, 100, 0, 0);
        x.deliver(0);
        CHECK.fails("those that are used up count", Check.STATE, () -> x.receive(0, 1, 1, 0, 0));
    }

    private static void promise6MadeLotsDoNotCount() {
        CHECK.of("Terms, Lots: of which at most 60 are bought");
        Foundrymark x = Workshop.chain();
        x.receive(0, 500, 1, 0, 0);
        for (int i = 0; i < 30; i++) {
            Workshop.job(x, 1, 1, 0);
        }
        for (int i = 1; i < 60; i++) {
            CHECK.same("receive", x.receive(0, 1, 1, 0, 3), 30 + i);
        }
        CHECK.fails("61st", Check.STATE, () -> x.receive(0, 1, 1, 0, 0));
        CHECK.same("30 made ones and 60 bought ones", x.lots(), 90);
        CHECK.same("partOf(89)", x.partOf(89), 0);
        CHECK.same("isHeld(89)", x.isHeld(89), true);
        CHECK.same("hold(89, false)", x.hold(89, false), 0);
        CHECK.same("isHeld(89)", x.isHeld(89), false);
        CHECK.same("isHeld(25)", x.isHeld(25), false);
        CHECK.fails("partOf(90)", Check.INDEX, () -> x.partOf(90));
        CHECK.same("isSound()", x.isSound(), true);
    }

    private static void promise7NoSuchSupplier() {
        CHECK.of("Promise 7: if there is no such supplier");
        CHECK.range(0, 3, Check.INDEX, n -> new Foundrymark().rule(n));
    }

    private static void promise7NormalAtFirst() {
        CHECK.of("Terms, Lots: by the normal rule, 'n', as at first");
        for (int supplier = 0; supplier < 4; supplier++) {
            CHECK.same("rule", new Foundrymark().rule(supplier), 'n');
        }
    }

    // ---- the rules of inspection

    /** Receives lots with so many bad pieces each; tells each one's hold and the rule then. */
    private static String rules(Foundrymark x, int... bad) {
        StringBuilder all = new StringBuilder();
        for (int b : bad) {
            int lot = x.receive(0, 10, 1, 3, b);
            all.append(x.isHeld(lot) ? '!' : '.').append(x.rule(3));
        }
        return all.toString();
    }

    private static void rulesOfInspection() {
        refusedByTheNormalRule();
        refusedByTheTightRule();
        refusedByTheReducedRule();
        refusedIsPutOnHold();
        normalBecomesTight();
        normalBecomesReduced();
        tightBecomesNormal();
        reducedBecomesNormal();
        sinceItLastBecameIt();
        ofThisSupplier();
        refusedCallsAreNotInspected();
    }

    private static void refusedByTheNormalRule() {
        CHECK.of("Terms, Lots: by the normal rule it is refused if there are more than 2");
        CHECK.same("2", rules(Workshop.bought(), 2), ".n");
        CHECK.same("3", rules(Workshop.bought(), 3), "!n");
        CHECK.same("20", rules(Workshop.bought(), 20), "!n");
    }

    private static void refusedByTheTightRule() {
        CHECK.of("Terms, Lots: by the tight one, 't', more than 1");
        CHECK.same("1", rules(Workshop.bought(), 3, 3, 1), "!n!t.t");
        CHECK.same("2", rules(Workshop.bought(), 3, 3, 2), "!n!t!t");
        CHECK.same("20", rules(Workshop.bought(), 3, 3, 20), "!n!t!t");
    }

    private static void refusedByTheReducedRule() {
        CHECK.of("Terms, Lots: by the reduced one, 'r', more than 4");
        CHECK.same("4", rules(Workshop.bought(), 0, 0, 0, 0, 4), ".n.n.n.r.r");
        CHECK.same("5", rules(Workshop.bought(), 0, 0, 0, 0, 5), ".n.n.n.r!n");
        CHECK.same("20", rules(Workshop.bought(), 0, 0, 0, 0, 20), ".n.n.n.r!n");
    }

    private static void refusedIsPutOnHold() {
        CHECK.of("Terms, Lots: A lot that is refused is put on hold");
        Foundrymark x = Workshop.chain();
        x.receive(0, 10, 1, 0, 3);
        x.order(1, 1, 0, 0);
        CHECK.same("nothing of it is promised", x.promise(0), false);
        CHECK.same("its rest stays", x.rest(0), 10);
        CHECK.same("its cost too", x.costOf(0), 10);
        CHECK.same("hold(0, false)", x.hold(0, false), 0);
        CHECK.same("on hold no more", x.promise(0), true);
        CHECK.same("the rule is not asked again", x.rule(0), 'n');
    }

    private static void normalBecomesTight() {
        CHECK.of("Terms, Lots: 't' if 2 of the last 5 lots, or of fewer, were refused");
        CHECK.same("1 of 1", rules(Workshop.bought(), 3), "!n");
        CHECK.same("2 of 2", rules(Workshop.bought(), 3, 3), "!n!t");
        CHECK.same("2 of 3", rules(Workshop.bought(), 3, 0, 3), "!n.n!t");
        CHECK.same("2 of 3, later", rules(Workshop.bought(), 0, 3, 3), ".n!n!t");
        CHECK.same("2 of 4", rules(Workshop.bought(), 3, 0, 0, 3), "!n.n.n!t");
        CHECK.same("2 of 5", rules(Workshop.bought(), 3, 0, 0, 0, 3), "!n.n.n.n!t");
        CHECK.same("1 of 4", rules(Workshop.bought(), 3, 0, 0, 0), "!n.n.n.n");
        CHECK.same("the last 5 of 8", rules(Workshop.bought(), 0, 0, 0, 3, 0, 0, 0, 3),
                ".n.n.n!n.n.n.n!t");
    }

    private static void normalBecomesReduced() {
        CHECK.of("Terms, Lots: and 'r' if the last 4 of these were not");
        CHECK.same("3", rules(Workshop.bought(), 2, 2, 2), ".n.n.n");
        CHECK.same("4", rules(Workshop.bought(), 2, 2, 2, 2), ".n.n.n.r");
        CHECK.same("3 behind a refused one", rules(Workshop.bought(), 3, 0, 0, 0), "!n.n.n.n");
        CHECK.same("4 behind a refused one", rules(Workshop.bought(), 3, 0, 0, 0, 0),
                "!n.n.n.n.r");
        CHECK.same("4, but not the last", rules(Workshop.bought(), 0, 0, 0, 3, 0, 0, 0, 0),
                ".n.n.n!n.n.n.n.r");
    }

    private static void tightBecomesNormal() {
        CHECK.of("Terms, Lots: from 't' 'n' if the last 3 by it were not");
        CHECK.same("2", rules(Workshop.bought(), 3, 3, 1, 1), "!n!t.t.t");
        CHECK.same("3", rules(Workshop.bought(), 3, 3, 1, 1, 1), "!n!t.t.t.n");
        CHECK.same("3, but not the last", rules(Workshop.bought(), 3, 3, 1, 1, 2, 1, 1, 1),
                "!n!t.t.t!t.t.t.n");
        CHECK.same("those before it became tight", rules(Workshop.bought(), 0, 0, 3, 0, 3, 0, 0),
                ".n.n!n.n!t.t.t");
    }

    private static void reducedBecomesNormal() {
        CHECK.of("Terms, Lots: from 'r' 'n' if one is refused");
        CHECK.same("one", rules(Workshop.bought(), 0, 0, 0, 0, 5), ".n.n.n.r!n");
        CHECK.same("none, for long", rules(Workshop.bought(), 0, 0, 0, 0, 4, 4, 4, 4, 4, 4, 4, 5),
                ".n.n.n.r.r.r.r.r.r.r.r!n");
    }

    private static void sinceItLastBecameIt() {
        CHECK.of("Terms, Lots: that were received by this rule since it last became it");
        CHECK.same("a refused one by 'r' is none by 'n'",
                rules(Workshop.bought(), 0, 0, 0, 0, 5, 3, 3), ".n.n.n.r!n!n!t");
        CHECK.same("nor is one by 'n', earlier",
                rules(Workshop.bought(), 3, 0, 0, 0, 0, 5, 3), "!n.n.n.n.r!n!n");
        CHECK.same("accepted ones by 't' are none by 'n'",
                rules(Workshop.bought(), 3, 3, 0, 0, 0, 0, 0, 0, 0), "!n!t.t.t.n.n.n.n.r");
        CHECK.same("refused ones by 'n', earlier",
                rules(Workshop.bought(), 3, 3, 0, 0, 0, 3, 0, 3), "!n!t.t.t.n!n.n!t");
        CHECK.same("accepted ones by 't', earlier",
                rules(Workshop.bought(), 3, 3, 0, 0, 0, 3, 3, 0, 0, 0),
                "!n!t.t.t.n!n!t.t.t.n");
        CHECK.same("accepted ones by 'n', earlier",
                rules(Workshop.bought(), 0, 0, 0, 0, 5, 0, 0, 0, 0), ".n.n.n.r!n.n.n.n.r");
    }

    private static void ofThisSupplier() {
        CHECK.of("Terms, Lots: lots of this supplier");
        for (int other = 0; other < 4; other++) {
            for (int supplier = 0; supplier < 4; supplier++) {
                Foundrymark x = Workshop.bought();
                x.receive(0, 1, 1, other, 3);
                x.receive(0, 1, 1, supplier, 3);
                CHECK.same("one of each", x.rule(supplier), other == supplier ? 't' : 'n');
            }
        }
        Foundrymark x = Workshop.fullOfParts();
        x.receive(0, 1, 1, 0, 3);
        x.receive(5, 1, 1, 0, 3);
        CHECK.same("of whatever part", x.rule(0), 't');
    }

    private static void refusedCallsAreNotInspected() {
        CHECK.of("Terms, Exceptions: a receive that throws is not inspected");
        Foundrymark x = Workshop.chain();
        x.receive(0, 1, 1, 0, 3);
        CHECK.fails("no such part", Check.INDEX, () -> x.receive(3, 1, 1, 0, 3));
        CHECK.fails("made", Check.UNSUPPORTED, () -> x.receive(1, 1, 1, 0, 3));
        CHECK.fails("out of range", Check.ARGUMENT, () -> x.receive(0, 0, 1, 0, 3));
        CHECK.same("rule(0)", x.rule(0), 'n');
        Foundrymark full = Workshop.bought();
        for (int i = 0; i < 57; i++) {
            full.receive(0, 1, 1, 1, 0);
        }
        rules(full, 0, 0, 3);
        CHECK.fails("61st", Check.STATE, () -> full.receive(0, 1, 1, 3, 3));
        CHECK.same("rule(3)", full.rule(3), 'n');
    }

    // ---- promises 8 and 9

    private static void holdingEdges() {
        promise8NoSuchLot();
        promise8NoOrders();
        promise8EachOrderOnce();
        promise8OtherPiecesAreFreeAgain();
        promise8NotBegun();
        promise8OnePieceIsEnough();
        promise8AlreadyHeld();
        promise8NoMore();
        promise9NoSuchLot();
        promise9OverAnyNumberOfSteps();
        promise9LotsThatComeLater();
    }

    private static void promise8NoSuchLot() {
        CHECK.of("Promise 8: if there is no such lot");
        CHECK.range(0, 14, Check.INDEX, n -> Workshop.busy().hold(n, true));
        CHECK.range(0, 14, Check.INDEX, n -> Workshop.busy().hold(n, false));
        CHECK.range(0, 59, Check.INDEX, n -> Workshop.fullOfLots().hold(n, true));
    }

    private static void promise8NoOrders() {
        CHECK.of("Promise 8: Returns how many orders lost their promises: none");
        Foundrymark x = Workshop.chain();
        x.receive(0, 10, 1, 0, 0);
        x.receive(0, 10, 1, 0, 0);
        CHECK.same("no orders", x.hold(0, true), 0);
        x.order(1, 10, 0, 0);
        x.promise(0);
        CHECK.same("those of another lot", x.hold(0, true), 0);
        CHECK.same("stateOf(0)", x.stateOf(0), 'p');
        x.addPart(true, 0);
        x.order(3, 1, 0, 0);
        x.promise(1);
        CHECK.same("one that needs nothing", x.hold(0, true), 0);
        CHECK.same("stateOf(1)", x.stateOf(1), 'p');
    }

    private static void promise8EachOrderOnce() {
        CHECK.of("Promise 8: Returns how many orders lost their promises: each once");
        Foundrymark x = Workshop.chain();
        x.addComponent(2, 0, 1, -1);
        x.receive(0, 50, 1, 0, 0);
        Workshop.job(x, 1, 9, 0);
        for (int i = 1; i < 4; i++) {
            x.order(2, 3, 0, 0);
            x.promise(i);
        }
        CHECK.same("reserved(0)", x.reserved(0), 9);
        CHECK.same("reserved(1)", x.reserved(1), 9);
        CHECK.same("hold(0, true)", x.hold(0, true), 3);
        CHECK.same("reserved(0)", x.reserved(0), 0);
        CHECK.same("reserved(1), held by this", x.reserved(1), 0);
        CHECK.same("again", x.hold(0, true), 0);
    }

    private static void promise8OtherPiecesAreFreeAgain() {
        CHECK.of("Terms, Orders: all orders that have pieces of it reserved lose their promises");
        Foundrymark x = Workshop.chain();
        x.receive(0, 3, 1, 0, 0);
        x.receive(0, 9, 1, 0, 0);
        x.order(1, 5, 0, 0);
        x.order(1, 7, 0, 0);
        x.promise(0);
        x.promise(1);
        CHECK.same("hold(0, true)", x.hold(0, true), 1);
        CHECK.same("pieces of other lots are free too", x.reserved(1), 7);
        CHECK.same("stateOf(0)", x.stateOf(0), '-');
        CHECK.same("stateOf(1)", x.stateOf(1), 'p');
        CHECK.fails("withdraw(0)", Check.UNSUPPORTED, () -> x.withdraw(0));
        CHECK.same("promise(0) finds 2", x.promise(0), false);
    }

    private static void promise8NotBegun() {
        CHECK.of("Terms, Orders: and are not begun");
        Foundrymark x = Workshop.shop();
        Workshop.job(x, 1, 2, 0);
        Workshop.job(x, 1, 2, 0);
        x.order(1, 2, 0, 0);
        x.promise(2);
        CHECK.same("the promised one alone", x.hold(0, true), 1);
        CHECK.same("in work", x.stateOf(0), 'o');
        CHECK.same("waiting", x.stateOf(1), 'w');
        x.advance(8);
        CHECK.same("it goes on", x.finishedAt(0), 4);
        CHECK.same("this too", x.finishedAt(1), 8);
        CHECK.same("what it makes is held", x.isHeld(1), true);
    }

    private static void promise8OnePieceIsEnough() {
        CHECK.of("Terms, Orders: that have pieces of it reserved: a single one");
        Foundrymark x = Workshop.chain();
        x.receive(0, 1, 1, 0, 0);
        x.receive(0, 9, 1, 0, 0);
        x.order(1, 10, 0, 0);
        x.promise(0);
        CHECK.same("hold(0, true)", x.hold(0, true), 1);
        CHECK.same("stateOf(0)", x.stateOf(0), '-');
    }

    private static void promise8AlreadyHeld() {
        CHECK.of("Promise 8: a lot that is on hold, or held, already");
        Foundrymark x = Workshop.chain();
        x.receive(0, 5, 1, 0, 3);
        CHECK.same("on hold already", x.hold(0, true), 0);
        x.hold(0, false);
        Workshop.job(x, 1, 2, 0);
        x.hold(0, true);
        CHECK.same("held already", x.hold(1, true), 0);
        x.hold(0, false);
        CHECK.same("it is on hold itself now", x.isHeld(1), true);
        x.hold(1, false);
        CHECK.same("isHeld(1)", x.isHeld(1), false);
    }

    private static void promise8NoMore() {
        CHECK.of("Promise 8: isOn: whether it is on hold from now on");
        Foundrymark x = Workshop.chain();
        x.receive(0, 5, 1, 0, 0);
        x.order(1, 2, 0, 0);
        x.promise(0);
        CHECK.same("was not on hold", x.hold(0, false), 0);
        CHECK.same("the promise stays", x.stateOf(0), 'p');
        x.hold(0, true);
        CHECK.same("no more", x.hold(0, false), 0);
        CHECK.same("the promise doesn't come back", x.stateOf(0), '-');
        CHECK.same("but can be given again", x.promise(0), true);
    }

    private static void promise9NoSuchLot() {
        CHECK.of("Promise 9: if there is no such lot");
        Foundrymark x = Workshop.busy();
        CHECK.range(0, x.lots() - 1, Check.INDEX, x::isHeld);
        Foundrymark full = Workshop.fullOfLots();
        CHECK.range(0, 59, Check.INDEX, full::isHeld);
    }

    /** Each part but the first is made of the one before. */
    private static Foundrymark longChain() {
        Foundrymark x = Workshop.bought();
        x.receive(0, 9, 1, 0, 0);
        for (int i = 1; i < 12; i++) {
            x.addPart(true, 0);
            x.addComponent(i, i - 1, 1, -1);
            Workshop.job(x, i, i == 1 ? 3 : 1, 0);
        }
        return x;
    }

    private static void promise9OverAnyNumberOfSteps() {
        CHECK.of("Terms, Lots: made with pieces of a lot that is held, over any number of steps");
        Foundrymark x = longChain();
        for (int held = 0; held < 12; held++) {
            x.hold(held, true);
            for (int lot = 0; lot < 12; lot++) {
                CHECK.same("isHeld(" + lot + ") by " + held, x.isHeld(lot), lot >= held);
            }
            x.hold(held, false);
            CHECK.same("isHeld(11) no more", x.isHeld(11), false);
        }
    }

    private static void promise9LotsThatComeLater() {
        CHECK.of("Terms, Lots: A lot is held if it is made with pieces of a lot that is held");
        Foundrymark x = Workshop.shop();
        Workshop.job(x, 1, 2, 0);
        x.hold(0, true);
        x.advance(4);
        CHECK.same("what comes later is held as well", x.isHeld(1), true);
        CHECK.same("it can't be delivered", x.deliver(0), false);
        x.hold(0, false);
        CHECK.same("it is not on hold itself", x.isHeld(1), false);
        CHECK.same("deliver(0)", x.deliver(0), true);
    }

    // ---- promise 10

    private static void chartEdges() {
        promise10NoSuchPart();
        promise10Centre();
        promise10Width();
        promise10ValuesSoFar();
        promise10TellingBeginsTheRowAnew();
        promise10At100And10AtFirst();
    }

    private static void promise10NoSuchPart() {
        CHECK.of("Promise 10: if there is no such part");
        CHECK.range(0, 2, Check.INDEX, n -> Workshop.chain().setChart(n, 0, 0));
        CHECK.range(0, 11, Check.INDEX, n -> Workshop.fullOfParts().setChart(n, 0, 0));
        CHECK.fails("out of range", Check.INDEX, () -> Workshop.chain().setChart(3, -1, -1));
    }

    private static void promise10Centre() {
        CHECK.of("Promise 10: centre: the centre, 0 to 1000");
        CHECK.range(0, 1000, Check.ARGUMENT, n -> Workshop.bought().setChart(0, n, 0));
        for (int centre : new int[] {0, 1000}) {
            Foundrymark x = Workshop.bought();
            x.receive(0, 1, 1, 0, 0);
            x.setChart(0, centre, 0);
            CHECK.same("at the centre", x.measure(0, centre), false);
            CHECK.same("1 above", x.measure(0, centre + 1), true);
        }
    }

    private static void promise10Width() {
        CHECK.of("Promise 10: width: the width, 0 to 500");
        CHECK.range(0, 500, Check.ARGUMENT, n -> Workshop.bought().setChart(0, 0, n));
        for (int width : new int[] {0, 1, 500}) {
            Foundrymark x = Workshop.bought();
            x.receive(0, 1, 1, 0, 0);
            x.setChart(0, 1000, width);
            CHECK.same("above by the width " + width, x.measure(0, 1000 + width), false);
            CHECK.same("below by the width " + width, x.measure(0, 1000 - width), false);
            CHECK.same("above by more", x.measure(0, 1001 + width), true);
            x.hold(0, false);
            CHECK.same("below by more", x.measure(0, 999 - width), true);
        }
    }

    private static void promise10ValuesSoFar() {
        CHECK.of("Promise 10: Returns how many values were measured so far, by whatever chart");
        Foundrymark x = Workshop.chain();
        x.receive(0, 9, 1, 0, 0);
        x.receive(0, 9, 1, 0, 0);
        Workshop.job(x, 1, 1, 0);
        CHECK.same("none yet", x.setChart(0, 100, 10), 0);
        x.measure(0, 100);
        x.measure(1, 2000);
        CHECK.fails("refused", Check.ARGUMENT, () -> x.measure(0, 2001));
        CHECK.fails("no such lot", Check.INDEX, () -> x.measure(3, 100));
        CHECK.same("on lots that are on hold too", x.setChart(0, 50, 0), 2);
        x.measure(1, 50);
        CHECK.fails("refused", Check.ARGUMENT, () -> x.setChart(0, 1001, 0));
        CHECK.same("by whatever chart", x.setChart(0, 50, 0), 3);
        CHECK.same("another part's", x.setChart(1, 50, 0), 0);
        x.measure(2, 50);
        CHECK.same("on its lots", x.setChart(1, 50, 0), 1);
        CHECK.same("and not on others", x.setChart(0, 50, 0), 3);
    }

    private static void promise10TellingBeginsTheRowAnew() {
        CHECK.of("Terms, Charts: Telling a chart begins the row anew");
        Foundrymark x = Workshop.chain();
        x.receive(0, 9, 1, 0, 0);
        measureTimes(x, 0, 101, 3);
        x.setChart(0, 100, 10);
        measureTimes(x, 0, 101, 3);
        x.setChart(1, 100, 10);
        CHECK.same("4th, another part's chart was told", x.measure(0, 101), true);
        x.hold(0, false);
        x.setChart(0, 90, 20);
        measureTimes(x, 0, 101, 3);
        CHECK.fails("refused", Check.ARGUMENT, () -> x.setChart(0, 90, 501));
        CHECK.same("4th, the telling was refused", x.measure(0, 101), true);
    }

    private static void promise10At100And10AtFirst() {
        CHECK.of("Terms, Charts: 100 and 10 at first");
        for (int part = 0; part < 6; part++) {
            Foundrymark x = Workshop.fullOfParts();
            x.receive(part, 1, 1, 0, 0);
            CHECK.same("110", x.measure(0, 110), false);
            CHECK.same("90", x.measure(0, 90), false);
            CHECK.same("111", x.measure(0, 111), true);
            x.hold(0, false);
            CHECK.same("89", x.measure(0, 89), true);
        }
        Foundrymark x = Workshop.chain();
        x.receive(0, 1, 1, 0, 0);
        Workshop.job(x, 1, 1, 0);
        CHECK.same("a made part's, 110", x.measure(1, 110), false);
        CHECK.same("a made part's, 90", x.measure(1, 90), false);
        CHECK.same("a made part's, 111", x.measure(1, 111), true);
    }

    // ---- promise 11

    private static void measureTimes(Foundrymark x, int lot, int value, int times) {
        for (int i = 1; i <= times; i++) {
            CHECK.same(value + ", " + i + ". in a row", x.measure(lot, value), false);
        }
    }

    private static void measuringEdges() {
        promise11NoSuchLot();
        promise11Value();
        promise11FourthInARow();
        promise11LaterInARow();
        promise11RowsEnd();
        promise11RowsOfTheChart();
        promise11ValuesOutOfTheWidthCount();
        promise11OnHoldItself();
        promise11PromisesAreLost();
    }

    private static void promise11NoSuchLot() {
        CHECK.of("Promise 11: if there is no such lot");
        CHECK.range(0, 59, Check.INDEX, n -> Workshop.fullOfLots().measure(n, 100));
        Foundrymark x = Workshop.busy();
        CHECK.range(0, x.lots() - 1, Check.INDEX, n -> x.measure(n, 100));
        CHECK.fails("out of range", Check.INDEX, () -> x.measure(-1, -1));
    }

    private static void promise11Value() {
        CHECK.of("Promise 11: value: the value, 0 to 2000");
        CHECK.range(0, 2000, Check.ARGUMENT, n -> Workshop.shop().measure(0, n));
        CHECK.same("0 is away", Workshop.shop().measure(0, 0), true);
        CHECK.same("2000 is away", Workshop.shop().measure(0, 2000), true);
    }

    private static void promise11FourthInARow() {
        CHECK.of("Promise 11: or it is the 4th in a row above the centre, or below it");
        for (int value : new int[] {99, 101, 90, 110}) {
            Foundrymark x = Workshop.shop();
            measureTimes(x, 0, value, 3);
            CHECK.same("4th of " + value, x.measure(0, value), true);
            CHECK.same("isHeld(0)", x.isHeld(0), true);
        }
        Foundrymark x = Workshop.shop();
        CHECK.same("101", x.measure(0, 101), false);
        CHECK.same("110", x.measure(0, 110), false);
        CHECK.same("105", x.measure(0, 105), false);
        CHECK.same("of whatever values", x.measure(0, 102), true);
    }

    private static void promise11LaterInARow() {
        CHECK.of("Promise 11: the 4th or a later one in a row");
        Foundrymark x = Workshop.shop();
        measureTimes(x, 0, 101, 3);
        for (int i = 4; i < 20; i++) {
            CHECK.same(i + ".", x.measure(0, 101), true);
            x.hold(0, false);
        }
    }

    private static void promise11RowsEnd() {
        CHECK.of("Promise 11: in a row above the centre, or below it: what ends a row");
        for (int between : new int[] {100, 99}) {
            Foundrymark x = Workshop.shop();
            measureTimes(x, 0, 101, 3);
            CHECK.same("between", x.measure(0, between), false);
            measureTimes(x, 0, 101, 3);
            CHECK.same("4th", x.measure(0, 101), true);
        }
        Foundrymark x = Workshop.shop();
        measureTimes(x, 0, 100, 9);
        measureTimes(x, 0, 99, 3);
        CHECK.same("4th below", x.measure(0, 99), true);
    }

    private static void promise11RowsOfTheChart() {
        CHECK.of("Terms, Charts: those of the chart told in order");
        Foundrymark x = Workshop.chain();
        for (int i = 0; i < 4; i++) {
            x.receive(0, 9, 1, 0, 0);
        }
        Workshop.job(x, 1, 1, 0);
        for (int lot = 0; lot < 3; lot++) {
            CHECK.same("a value on each lot", x.measure(lot, 101), false);
            CHECK.same("another chart", x.measure(4, 99), false);
        }
        CHECK.same("the 4th one's lot is put on hold", x.measure(3, 101), true);
        CHECK.same("isHeld(3)", x.isHeld(3), true);
        CHECK.same("isHeld(0)", x.isHeld(0), false);
        CHECK.same("4th of the other chart", x.measure(4, 99), true);
    }

    private static void promise11ValuesOutOfTheWidthCount() {
        CHECK.of("Terms, Charts: a value that is away from the centre counts in its row");
        Foundrymark x = Workshop.shop();
        for (int i = 0; i < 3; i++) {
            CHECK.same("200", x.measure(0, 200), true);
            x.hold(0, false);
        }
        CHECK.same("4th above", x.measure(0, 101), true);
        x.hold(0, false);
        CHECK.same("1st below", x.measure(0, 99), false);
    }

    private static void promise11OnHoldItself() {
        CHECK.of("Promise 11: put on hold by this, and was not on hold itself");
        Foundrymark x = Workshop.chain();
        x.receive(0, 9, 1, 0, 3);
        CHECK.same("on hold itself", x.measure(0, 111), false);
        CHECK.same("isHeld(0)", x.isHeld(0), true);
        x.hold(0, false);
        Workshop.job(x, 1, 1, 0);
        x.hold(0, true);
        CHECK.same("held, but not on hold itself", x.measure(1, 111), true);
        x.hold(0, false);
        CHECK.same("it is on hold itself now", x.isHeld(1), true);
        CHECK.same("not put on hold", x.measure(0, 110), false);
    }

    private static void promise11PromisesAreLost() {
        CHECK.of("Terms, Orders: When a lot comes to be held by a value");
        Foundrymark x = Workshop.chain();
        x.receive(0, 9, 1, 0, 0);
        Workshop.job(x, 1, 3, 0);
        x.order(2, 3, 0, 0);
        x.order(1, 6, 0, 0);
        x.promise(1);
        x.promise(2);
        CHECK.same("within", x.measure(0, 110), false);
        CHECK.same("promises stay", x.stateOf(2), 'p');
        CHECK.same("away", x.measure(0, 111), true);
        CHECK.same("of this lot", x.stateOf(2), '-');
        CHECK.same("of what is made of it", x.stateOf(1), '-');
        CHECK.same("reserved(0)", x.reserved(0), 0);
        CHECK.same("reserved(1)", x.reserved(1), 0);
    }

    // ---- promises 12 to 16

    private static void askingEdges() {
        promise12NumberOfLots();
        promise13PartOf();
        promise14Rest();
        promise15Reserved();
        promise16CostOf();
    }

    private static void promise12NumberOfLots() {
        CHECK.of("Promise 12: Returns the number of lots");
        Foundrymark x = Workshop.shop();
        CHECK.same("1", x.lots(), 1);
        Workshop.job(x, 1, 1, 0);
        Workshop.job(x, 1, 1, 0);
        x.scrap(1, 1);
        CHECK.same("none is made yet", x.lots(), 1);
        x.advance(2);
        CHECK.same("one is made", x.lots(), 2);
        x.advance(2);
        CHECK.same("without pieces, none", x.lots(), 2);
        x.deliver(0);
        CHECK.same("one that is used up counts", x.lots(), 2);
        x.receive(0, 1, 1, 0, 20);
        CHECK.same("one that is refused counts", x.lots(), 3);
    }

    private static void promise13PartOf() {
        CHECK.of("Promise 13: if there is no such lot");
        Foundrymark x = Workshop.busy();
        CHECK.range(0, 14, Check.INDEX, x::partOf);
        CHECK.of("Promise 13: Returns the number of the part");
        StringBuilder parts = new StringBuilder();
        for (int lot = 0; lot < x.lots(); lot++) {
            parts.append(x.partOf(lot));
        }
        CHECK.same("partOf", parts.toString(), "001111111000425");
    }

    private static void promise14Rest() {
        CHECK.of("Promise 14: if there is no such lot");
        Foundrymark busy = Workshop.busy();
        CHECK.range(0, 14, Check.INDEX, busy::rest);
        CHECK.of("Promise 14: Returns the number of pieces, reserved ones included");
        Foundrymark x = Workshop.shop();
        x.order(1, 100, 0, 0);
        x.promise(0);
        CHECK.same("all are reserved", x.rest(0), 100);
        x.release(0);
        CHECK.same("all are taken", x.rest(0), 0);
        Workshop.pass(x, 200);
        CHECK.same("all are made", x.rest(1), 100);
        x.deliver(0);
        CHECK.same("all are delivered", x.rest(1), 0);
    }

    private static void promise15Reserved() {
        CHECK.of("Promise 15: if there is no such lot");
        Foundrymark busy = Workshop.busy();
        CHECK.range(0, 14, Check.INDEX, busy::reserved);
        CHECK.of("Promise 15: Returns how many pieces of a lot are reserved");
        Foundrymark x = Workshop.shop();
        CHECK.same("none", x.reserved(0), 0);
        x.order(1, 99, 0, 0);
        x.order(1, 1, 0, 0);
        x.promise(0);
        CHECK.same("of one order", x.reserved(0), 99);
        x.promise(1);
        CHECK.same("of all orders", x.reserved(0), 100);
        x.withdraw(0);
        CHECK.same("withdrawn", x.reserved(0), 1);
        x.release(1);
        CHECK.same("released", x.reserved(0), 0);
    }

    private static void promise16CostOf() {
        CHECK.of("Promise 16: if there is no such lot");
        Foundrymark busy = Workshop.busy();
        CHECK.range(0, 14, Check.INDEX, busy::costOf);
        CHECK.of("Promise 16: Returns the cost of the rest of a lot");
        Foundrymark x = Workshop.shop();
        CHECK.same("of all", x.costOf(0), 100);
        x.order(1, 40, 0, 0);
        x.promise(0);
        CHECK.same("reserved ones included", x.costOf(0), 100);
        x.release(0);
        CHECK.same("of what is left", x.costOf(0), 60);
        x.order(0, 60, 0, 0);
        x.deliver(1);
        CHECK.same("of nothing", x.costOf(0), 0);
    }

    // ---- costs

    private static void costEdges() {
        shareIsCut();
        wholeLotIsTaken();
        shareOfTheGreatestCost();
        costOfAllPiecesAndTimes();
    }

    /** A lot of 3 pieces of part 0 that cost 10 in all; part 1 is made of one, part 2 of two. */
    private static Foundrymark threeFor10() {
        Foundrymark x = Workshop.machine(1, 7, 500, 1);
        x.addPart(true, 0);
        x.addPart(true, 0);
        x.addComponent(1, 0, 1, -1);
        x.addComponent(2, 0, 2, -1);
        Workshop.job(x, 0, 3, 0);
        x.advance(10);
        CHECK.same("costOf(0)", x.costOf(0), 10);
        return x;
    }

    private static void shareIsCut() {
        CHECK.of("Terms, Costs: the cost of its rest times k, divided by r, cut");
        Foundrymark x = threeFor10();
        Workshop.job(x, 2, 1, 0);
        CHECK.same("2 of 3: 20 / 3", x.costOf(1), 6);
        CHECK.same("the cost of the rest is less by this", x.costOf(0), 4);
        Foundrymark y = threeFor10();
        Workshop.job(y, 1, 1, 0);
        CHECK.same("1 of 3: 10 / 3", y.costOf(1), 3);
        Workshop.job(y, 1, 1, 0);
        CHECK.same("1 of 2: 7 / 2", y.costOf(2), 3);
        Workshop.job(y, 1, 1, 0);
        CHECK.same("1 of 1: 4 / 1", y.costOf(3), 4);
        CHECK.same("nothing is left", y.costOf(0), 0);
        CHECK.same("isSound()", y.isSound(), true);
    }

    private static void wholeLotIsTaken() {
        CHECK.of("Terms, Costs: To take k pieces of a lot with a rest of r: all of them");
        Foundrymark x = threeFor10();
        Workshop.job(x, 1, 3, 0);
        CHECK.same("3 of 3", x.costOf(1), 10);
        CHECK.same("the rest", x.costOf(0), 0);
        Foundrymark y = threeFor10();
        CHECK.same("deliver(0)", y.deliver(0), true);
        CHECK.same("3 of 3, delivered", y.deliveredCost(0), 10);
        CHECK.same("the rest", y.costOf(0), 0);
    }

    private static void shareOfTheGreatestCost() {
        CHECK.of("Terms, Costs: the cost of its rest times k, beyond an int");
        Foundrymark x = Workshop.bought();
        for (int i = 1; i < 4; i++) {
            x.addPart(true, 0);
        }
        for (int i = 0; i < 4; i++) {
            x.addComponent(1, 0, 9, -1);
        }
        x.addComponent(2, 1, 8, -1);
        x.addComponent(3, 2, 1, -1);
        for (int i = 0; i < 58; i++) {
            x.receive(0, 500, 999, 0, 0);
        }
        for (int i = 0; i < 8; i++) {
            Workshop.job(x, 1, 100, 0);
        }
        Workshop.job(x, 2, 100, 0);
        CHECK.same("28800 pieces at 999", x.costOf(66), 28771200L);
        Workshop.job(x, 3, 99, 0);
        CHECK.same("99 of 100", x.costOf(67), 28483488L);
        CHECK.same("1 of 100", x.costOf(66), 287712L);
        CHECK.same("isSound()", x.isSound(), true);
    }

    private static void costOfAllPiecesAndTimes() {
        CHECK.of("Terms, Jobs: the cost of all pieces taken and of all times, setups included");
        Foundrymark x = Workshop.bought();
        x.addPart(true, 1);
        x.addMachine(20, 50, 500, 1);
        x.addMachine(0, 50, 500, 1);
        x.addMachine(3, 0, 500, 1);
        x.addComponent(1, 0, 2, -1);
        for (int machine = 0; machine < 3; machine++) {
            x.addOperation(1, machine, -1, machine + 1);
        }
        x.receive(0, 10, 7, 0, 0);
        Workshop.job(x, 1, 4, 0);
        x.advance(500);
        CHECK.same("finishedAt(0)", x.finishedAt(0), 54 + 58 + 12);
        CHECK.same("costOf(1)", x.costOf(1), 8 * 7 + 54 * 20 + 58 * 0 + 12 * 3);
    }
}
