/** Promises 6 to 16: receive, rule, hold, isHeld, charts, and what a lot tells. */
public final class LotsTest {
    private static final Class<IllegalArgumentException> ARGUMENT = IllegalArgumentException.class;
    private static final Class<IllegalStateException> STATE = IllegalStateException.class;
    private static final Class<IndexOutOfBoundsException> INDEX = IndexOutOfBoundsException.class;
    private static final Class<UnsupportedOperationException> UNSUPPORTED =
            UnsupportedOperationException.class;
    private static final Check CHECK = new Check("LotsTest");

    public static void main(String[] args) {
        receiving();
        sixtyLots();
        normalRule();
        tightRule();
        reducedRule();
        eachSupplierAlone();
        holding();
        holdingWhatWasMade();
        losingPromises();
        losingPromisesOfWhatWasMade();
        charts();
        rowsOfCharts();
        measuringHeldLots();
        restsAndCosts();
        numbersOfLots();
        ninetyLots();
        CHECK.close();
    }

    private static void receiving() {
        Foundrymark x = new Foundrymark();
        x.addPart(false, 0);
        x.addPart(true, 0);
        CHECK.fails("no such part", INDEX, () -> x.receive(2, 1, 1, 0, 0));
        CHECK.fails("no such part", INDEX, () -> x.receive(-1, 0, 1, 0, 0));
        CHECK.fails("a made part", UNSUPPORTED, () -> x.receive(1, 0, 1, 0, 0));
        int[][] wrong = {
            {0, 1, 0, 0}, {501, 1, 0, 0}, {1, -1, 0, 0}, {1, 1000, 0, 0},
            {1, 1, -1, 0}, {1, 1, 4, 0}, {1, 1, 0, -1}, {1, 1, 0, 21},
        };
        for (int[] w : wrong) {
            CHECK.fails("receive", ARGUMENT, () -> x.receive(0, w[0], w[1], w[2], w[3]));
        }
        CHECK.same("least", x.receive(0, 1, 0, 0, 0), 0);
        CHECK.same("most", x.receive(0, 500, 999, 3, 20), 1);
        CHECK.same("cost of the most", x.costOf(1), 499500);
        CHECK.same("lots()", x.lots(), 2);
    }

    private static void sixtyLots() {
        Foundrymark x = new Foundrymark();
        x.addPart(true, 0);
        x.addPart(false, 0);
        x.order(0, 1, 0, 0);
        x.release(0);
        for (int i = 0; i < 60; i++) {
            CHECK.same("receive", x.receive(1, 1, 1, 0, 0), i + 1);
        }
        CHECK.fails("61st", STATE, () -> x.receive(1, 1, 1, 0, 0));
        CHECK.fails("61st and wrong", ARGUMENT, () -> x.receive(1, 1, 1, 0, 21));
        x.order(0, 1, 0, 0);
        x.release(1);
        CHECK.same("a made one still comes", x.lotOf(1), 61);
        CHECK.same("lots()", x.lots(), 62);
    }

    private static Foundrymark bought() {
        Foundrymark x = new Foundrymark();
        x.addPart(false, 0);
        return x;
    }

    /** Receives lots with so many bad pieces each, and tells each one's hold and the rule then. */
    private static String rules(Foundrymark x, int supplier, int... bad) {
        StringBuilder all = new StringBuilder();
        for (int b : bad) {
            int lot = x.receive(0, 10, 1, supplier, b);
            all.append(x.isHeld(lot) ? '!' : '.').append(x.rule(supplier));
        }
        return all.toString();
    }

    private static void normalRule() {
        CHECK.same("2 bad are accepted, 3 refused", rules(bought(), 0, 2, 3), ".n!n");
        CHECK.same("2 of fewer", rules(bought(), 0, 3, 3), "!n!t");
        CHECK.same("2 of the last 5", rules(bought(), 0, 3, 0, 0, 0, 3), "!n.n.n.n!t");
        CHECK.same("1 of the last 5", rules(bought(), 0, 3, 0, 0, 0), "!n.n.n.n");
        CHECK.same("4 accepted", rules(bought(), 0, 2, 2, 2, 2), ".n.n.n.r");
        CHECK.same("4 accepted behind one", rules(bought(), 0, 3, 0, 0, 0, 0), "!n.n.n.n.r");
        CHECK.same("3 accepted are too few", rules(bought(), 0, 0, 0, 0, 3, 0, 0), ".n.n.n!n.n.n");
        CHECK.fails("rule(4)", INDEX, () -> bought().rule(4));
        CHECK.fails("rule(-1)", INDEX, () -> bought().rule(-1));
    }

    private static void tightRule() {
        CHECK.same("1 bad is accepted, 2 refused", rules(bought(), 0, 3, 3, 1, 2), "!n!t.t!t");
        CHECK.same("3 accepted", rules(bought(), 0, 3, 3, 1, 2, 1, 1, 1),
                "!n!t.t!t.t.t.n");
        CHECK.same("counts anew when it becomes normal",
                rules(bought(), 0, 3, 3, 0, 0, 0, 3, 0, 0, 0, 3),
                "!n!t.t.t.n!n.n.n.n!t");
        CHECK.same("counts anew when it becomes tight",
                rules(bought(), 0, 3, 3, 0, 0, 0, 3, 3, 0, 0, 0),
                "!n!t.t.t.n!n!t.t.t.n");
    }

    private static void reducedRule() {
        CHECK.same("4 bad are accepted, 5 refused",
                rules(bought(), 0, 0, 0, 0, 0, 4, 5), ".n.n.n.r.r!n");
        CHECK.same("counts anew when it becomes normal",
                rules(bought(), 0, 0, 0, 0, 0, 5, 3, 0, 0, 0, 0),
                ".n.n.n.r!n!n.n.n.n.r");
        CHECK.same("stays reduced", rules(bought(), 0, 0, 0, 0, 0, 4, 4, 4, 4, 4, 4),
                ".n.n.n.r.r.r.r.r.r.r");
    }

    private static void eachSupplierAlone() {
        Foundrymark x = bought();
        rules(x, 1, 3);
        rules(x, 2, 3);
        CHECK.same("one refused lot each", x.rule(1), 'n');
        rules(x, 1, 3);
        CHECK.same("rule(1)", x.rule(1), 't');
        CHECK.same("rule(2)", x.rule(2), 'n');
        CHECK.same("rule(0)", x.rule(0), 'n');
    }

    private static void holding() {
        Foundrymark x = bought();
        x.receive(0, 10, 1, 0, 0);
        x.receive(0, 10, 1, 0, 3);
        CHECK.same("isHeld(0)", x.isHeld(0), false);
        CHECK.same("isHeld(1)", x.isHeld(1), true);
        CHECK.same("hold(1, false)", x.hold(1, false), 0);
        CHECK.same("isHeld(1) no more", x.isHeld(1), false);
        CHECK.same("hold(0, true)", x.hold(0, true), 0);
        CHECK.same("hold(0, true) again", x.hold(0, true), 0);
        CHECK.same("isHeld(0)", x.isHeld(0), true);
        CHECK.same("hold(0, false)", x.hold(0, false), 0);
        CHECK.same("isHeld(0) no more", x.isHeld(0), false);
        CHECK.fails("hold(2, true)", INDEX, () -> x.hold(2, true));
        CHECK.fails("hold(-1, false)", INDEX, () -> x.hold(-1, false));
        CHECK.fails("isHeld(2)", INDEX, () -> x.isHeld(2));
        CHECK.fails("isHeld(-1)", INDEX, () -> x.isHeld(-1));
    }

    /** Part 0 is bought, part 1 made of it, part 2 of that; nothing needs a machine. */
    private static Foundrymark chain() {
        Foundrymark x = bought();
        x.addPart(true, 0);
        x.addPart(true, 0);
        x.addComponent(1, 0, 1, -1);
        x.addComponent(2, 1, 1, -1);
        return x;
    }

    private static void holdingWhatWasMade() {
        Foundrymark x = chain();
        x.receive(0, 5, 1, 0, 0);
        x.receive(0, 5, 1, 0, 0);
        x.order(1, 7, 0, 0);
        x.order(2, 7, 0, 0);
        x.release(0);
        x.release(1);
        x.hold(1, true);
        CHECK.same("over one step", x.isHeld(2), true);
        CHECK.same("over two steps", x.isHeld(3), true);
        CHECK.same("not its sister", x.isHeld(0), false);
        x.hold(2, true);
        x.hold(1, false);
        CHECK.same("of one between", x.isHeld(3), true);
        x.hold(2, false);
        CHECK.same("no more", x.isHeld(3), false);
        x.hold(3, true);
        CHECK.same("not backwards", x.isHeld(2), false);
    }

    private static void losingPromises() {
        Foundrymark x = chain();
        x.receive(0, 10, 1, 0, 0);
        x.receive(0, 10, 1, 0, 0);
        x.order(1, 6, 0, 0);
        x.order(1, 6, 0, 0);
        x.order(1, 6, 0, 0);
        x.promise(0);
        x.promise(1);
        x.promise(2);
        CHECK.same("reserved(0)", x.reserved(0), 10);
        CHECK.same("reserved(1)", x.reserved(1), 8);
        CHECK.same("hold(0, true)", x.hold(0, true), 2);
        CHECK.same("stateOf(0)", x.stateOf(0), '-');
        CHECK.same("stateOf(1)", x.stateOf(1), '-');
        CHECK.same("stateOf(2)", x.stateOf(2), 'p');
        CHECK.same("reserved(0)", x.reserved(0), 0);
        CHECK.same("reserved(1)", x.reserved(1), 6);
        CHECK.same("promise(0) finds too little", x.promise(0), false);
        x.hold(0, false);
        CHECK.same("no promise comes back", x.stateOf(1), '-');
        CHECK.same("promise(0)", x.promise(0), true);
        x.release(0);
        CHECK.same("a job that has begun loses nothing", x.hold(0, true), 0);
        CHECK.same("but what it made is held", x.isHeld(x.lotOf(0)), true);
        CHECK.same("isSound()", x.isSound(), true);
    }

    private static void losingPromisesOfWhatWasMade() {
        Foundrymark x = chain();
        x.receive(0, 10, 1, 0, 0);
        x.order(1, 4, 0, 0);
        x.order(2, 4, 0, 0);
        x.release(0);
        x.promise(1);
        CHECK.same("reserved(1)", x.reserved(1), 4);
        CHECK.same("hold(0, true)", x.hold(0, true), 1);
        CHECK.same("reserved(1)", x.reserved(1), 0);
        CHECK.same("isSound()", x.isSound(), true);
    }

    private static void charts() {
        Foundrymark x = chain();
        x.receive(0, 10, 1, 0, 0);
        CHECK.fails("setChart(3, ..)", INDEX, () -> x.setChart(3, 0, 0));
        CHECK.fails("setChart(-1, ..)", INDEX, () -> x.setChart(-1, -1, 0));
        CHECK.fails("centre -1", ARGUMENT, () -> x.setChart(0, -1, 0));
        CHECK.fails("centre 1001", ARGUMENT, () -> x.setChart(0, 1001, 0));
        CHECK.fails("width -1", ARGUMENT, () -> x.setChart(0, 0, -1));
        CHECK.fails("width 501", ARGUMENT, () -> x.setChart(0, 0, 501));
        CHECK.fails("measure(1, 0)", INDEX, () -> x.measure(1, 0));
        CHECK.fails("measure(-1, 2001)", INDEX, () -> x.measure(-1, 2001));
        CHECK.fails("value -1", ARGUMENT, () -> x.measure(0, -1));
        CHECK.fails("value 2001", ARGUMENT, () -> x.measure(0, 2001));
        CHECK.same("2000", x.measure(0, 2000), true);
        x.hold(0, false);
        CHECK.same("110 lies within", x.measure(0, 110), false);
        CHECK.same("90 lies within", x.measure(0, 90), false);
        CHECK.same("111 lies without", x.measure(0, 111), true);
        CHECK.same("isHeld(0)", x.isHeld(0), true);
        x.hold(0, false);
        CHECK.same("89 lies without", x.measure(0, 89), true);
        CHECK.same("setChart", x.setChart(0, 1000, 500), 5);
        x.hold(0, false);
        CHECK.same("1500 lies within", x.measure(0, 1500), false);
        CHECK.same("1501 lies without", x.measure(0, 1501), true);
        CHECK.same("by whatever chart", x.setChart(0, 0, 0), 7);
        x.hold(0, false);
        CHECK.same("0 of width 0", x.measure(0, 0), false);
        CHECK.same("1 of width 0", x.measure(0, 1), true);
        CHECK.same("another part", x.setChart(1, 0, 0), 0);
    }

    private static void rowsOfCharts() {
        Foundrymark x = chain();
        x.receive(0, 10, 1, 0, 0);
        x.receive(0, 10, 1, 0, 0);
        x.order(1, 1, 0, 0);
        x.release(0);
        CHECK.same("1st", x.measure(0, 101), false);
        CHECK.same("2nd", x.measure(1, 101), false);
        CHECK.same("another part's", x.measure(2, 99), false);
        CHECK.same("3rd", x.measure(0, 101), false);
        CHECK.same("4th", x.measure(1, 101), true);
        CHECK.same("5th", x.measure(0, 101), true);
        x.hold(0, false);
        x.hold(1, false);
        CHECK.same("1st below", x.measure(0, 99), false);
        CHECK.same("2nd below", x.measure(0, 99), false);
        CHECK.same("3rd below", x.measure(0, 99), false);
        CHECK.same("at the centre", x.measure(0, 100), false);
        CHECK.same("1st below", x.measure(0, 99), false);
        CHECK.same("2nd below", x.measure(0, 99), false);
        CHECK.same("3rd below", x.measure(0, 99), false);
        x.setChart(0, 100, 10);
        CHECK.same("1st of the row anew", x.measure(0, 99), false);
        CHECK.same("2nd", x.measure(0, 99), false);
        CHECK.fails("none", ARGUMENT, () -> x.setChart(0, 100, 501));
        CHECK.same("3rd", x.measure(0, 99), false);
        CHECK.same("4th", x.measure(0, 99), true);
        x.setChart(0, 100, 10);
        x.hold(0, false);
        for (int i = 0; i < 6; i++) {
            CHECK.same("at the centre", x.measure(0, 100), false);
        }
    }

    private static void measuringHeldLots() {
        Foundrymark x = chain();
        x.receive(0, 10, 1, 0, 0);
        x.order(1, 2, 0, 0);
        x.order(2, 2, 0, 0);
        x.order(1, 3, 0, 0);
        x.release(0);
        x.promise(1);
        x.promise(2);
        CHECK.same("measure", x.measure(0, 500), true);
        CHECK.same("its promise is lost", x.stateOf(2), '-');
        CHECK.same("and that on what was made", x.stateOf(1), '-');
        CHECK.same("on hold itself", x.measure(0, 500), false);
        CHECK.same("held, but not on hold itself", x.measure(1, 500), true);
        x.hold(0, false);
        CHECK.same("is on hold now", x.isHeld(1), true);
        CHECK.same("a value within takes no hold back", x.measure(1, 100), false);
        CHECK.same("isHeld(1)", x.isHeld(1), true);
    }

    private static void restsAndCosts() {
        Foundrymark x = chain();
        x.addMachine(1, 0, 500, 1);
        x.addOperation(1, 0, -1, 1);
        x.receive(0, 10, 3, 0, 0);
        x.order(1, 4, 0, 0);
        x.promise(0);
        CHECK.same("reserved pieces included", x.rest(0), 10);
        CHECK.same("reserved(0)", x.reserved(0), 4);
        CHECK.same("costOf(0)", x.costOf(0), 30);
        x.release(0);
        CHECK.same("rest(0)", x.rest(0), 6);
        CHECK.same("reserved(0)", x.reserved(0), 0);
        CHECK.same("costOf(0)", x.costOf(0), 18);
        x.scrap(0, 1);
        x.advance(4);
        CHECK.same("rest(1)", x.rest(1), 3);
        CHECK.same("costOf(1)", x.costOf(1), 16);
        x.order(2, 1, 0, 0);
        x.release(1);
        CHECK.same("16 * 1 / 3 is cut", x.costOf(2), 5);
        CHECK.same("the rest costs less by this", x.costOf(1), 11);
        x.order(2, 1, 0, 0);
        x.release(2);
        CHECK.same("11 * 1 / 2 is cut", x.costOf(3), 5);
        CHECK.same("costOf(1)", x.costOf(1), 6);
        CHECK.same("isSound()", x.isSound(), true);
    }

    private static void numbersOfLots() {
        Foundrymark x = chain();
        x.receive(0, 10, 3, 0, 0);
        x.order(1, 4, 0, 0);
        x.release(0);
        CHECK.same("lots()", x.lots(), 2);
        CHECK.same("partOf(0)", x.partOf(0), 0);
        CHECK.same("partOf(1)", x.partOf(1), 1);
        for (int lot : new int[] {-1, 2, 89, 90, Integer.MAX_VALUE, Integer.MIN_VALUE}) {
            CHECK.fails("partOf", INDEX, () -> x.partOf(lot));
            CHECK.fails("rest", INDEX, () -> x.rest(lot));
            CHECK.fails("reserved", INDEX, () -> x.reserved(lot));
            CHECK.fails("costOf", INDEX, () -> x.costOf(lot));
        }
    }

    /** Lots 0 to 59 are bought, 60 to 74 are made of four of these each, 75 to 89 of those. */
    private static Foundrymark ninety() {
        Foundrymark x = chain();
        for (int i = 0; i < 60; i++) {
            x.receive(0, 1, 1, 0, 0);
        }
        for (int i = 0; i < 30; i++) {
            x.order(i < 15 ? 1 : 2, 4, 0, 0);
            x.release(i);
        }
        return x;
    }

    private static void ninetyLots() {
        Foundrymark x = ninety();
        CHECK.same("lots()", x.lots(), 90);
        for (int i = 0; i < 30; i++) {
            CHECK.same("lotOf(" + i + ")", x.lotOf(i), 60 + i);
        }
        x.deliver(29);
        CHECK.same("lotsIn(29)", x.lotsIn(29), 6);
        CHECK.same("touched(74)", x.touched(74), 1);
        CHECK.same("touched(73)", x.touched(73), 0);
        CHECK.same("isSound()", x.isSound(), true);
        ninetyLotsAreHeld(60, 67);
        ninetyLotsAreHeld(67, 75);
    }

    private static void ninetyLotsAreHeld(int from, int to) {
        Foundrymark x = ninety();
        for (int lot = from; lot < to; lot++) {
            x.hold(lot, true);
            for (int other = 75; other < 90; other++) {
                CHECK.same("isHeld(" + other + ")", x.isHeld(other), other == lot + 15);
                CHECK.same("isIn(" + lot + ", " + other + ")", x.isIn(lot, other),
                        other == lot + 15);
            }
            x.hold(lot, false);
            CHECK.same("isHeld(" + lot + ")", x.isHeld(lot), false);
            CHECK.same("4 bought ones in it", x.isIn((lot - 60) * 4, lot + 15), true);
            CHECK.same("and no other's", x.isIn((lot - 60) * 4 + 4, lot + 15), false);
        }
    }
}
