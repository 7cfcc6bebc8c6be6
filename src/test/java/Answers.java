import java.util.function.Supplier;

/** What a factory answers, as texts, so that two factories can be held against each other. */
final class Answers {
    private final StringBuilder told = new StringBuilder();
    private final Foundrymark x;

    private Answers(Foundrymark x) {
        this.x = x;
    }

    /** All that can be asked without changing anything. */
    static String asked(Foundrymark x) {
        Answers all = new Answers(x);
        all.askLots();
        all.askOrders();
        all.askMachines();
        return all.told.toString();
    }

    /** What comes when the factory goes on: this tells what can't be asked, such as rows of charts. */
    static String later(Foundrymark x) {
        Answers all = new Answers(x);
        all.goOnWithOrders();
        all.goOnWithLots();
        all.goOnWithParts();
        all.goOnToTheEnd();
        return all.told.toString();
    }

    private void tell(String what, Supplier<Object> call) {
        told.append(' ').append(what).append('=').append(answer(call));
    }

    private static String answer(Supplier<Object> call) {
        try {
            return String.valueOf(call.get());
        } catch (RuntimeException e) {
            return e.getClass().getSimpleName();
        }
    }

    private boolean isThere(Runnable call) {
        try {
            call.run();
            return true;
        } catch (IndexOutOfBoundsException e) {
            return false;
        }
    }

    private void askLots() {
        tell("lots", x::lots);
        for (int supplier = 0; supplier < 4; supplier++) {
            int s = supplier;
            tell("rule", () -> x.rule(s));
        }
        int lots = x.lots();
        for (int i = 0; i < lots; i++) {
            int lot = i;
            tell("lot " + lot, () -> x.partOf(lot));
            tell("rest", () -> x.rest(lot));
            tell("reserved", () -> x.reserved(lot));
            tell("cost", () -> x.costOf(lot));
            tell("held", () -> x.isHeld(lot));
            // All pairs of many lots would be more calls than an object promises to answer.
            for (int j = i + 1; j < lots && lots < 20; j++) {
                int other = j;
                tell("in", () -> x.isIn(lot, other));
            }
        }
    }

    private void askOrders() {
        for (int i = 0; i < 30; i++) {
            int order = i;
            if (!isThere(() -> x.stateOf(order))) {
                break;
            }
            tell("order " + order, () -> x.stateOf(order));
            tell("made", () -> x.lotOf(order));
            tell("at", () -> x.finishedAt(order));
            tell("lots", () -> x.lotsIn(order));
            tell("cost", () -> x.deliveredCost(order));
        }
        int lots = x.lots();
        for (int i = 0; i < lots && lots < 20; i++) {
            int lot = i;
            tell("touched", () -> x.touched(lot));
        }
        tell("share", x::inTimeShare);
    }

    private void askMachines() {
        for (int i = 0; i < 5; i++) {
            int machine = i;
            if (!isThere(() -> x.wear(machine))) {
                break;
            }
            tell("machine " + machine, () -> x.machineIs(machine));
            tell("wear", () -> x.wear(machine));
            tell("waiting", () -> x.waiting(machine));
        }
        tell("busy", x::meanBusy);
        tell("sound", x::isSound);
    }

    private void goOnWithOrders() {
        for (int i = 0; i < 10; i++) {
            int order = i;
            tell("withdraw", () -> x.withdraw(order));
            tell("promise", () -> x.promise(order));
            tell("release", () -> x.release(order));
            tell("scrap", () -> x.scrap(order, 1));
        }
        for (int i = 0; i < 6; i++) {
            tell("advance", () -> x.advance(1));
            tell("states", () -> "" + x.stateOf(4) + x.stateOf(5) + x.machineIs(0) + x.machineIs(1));
        }
    }

    private void goOnWithLots() {
        for (int i = 0; i < 4; i++) {
            int supplier = i;
            for (int j = 0; j < 3; j++) {
                tell("receive", () -> x.receive(0, 5, 2, supplier, 0));
                tell("rule", () -> x.rule(supplier));
            }
        }
        for (int lot : new int[] {0, 4, 13}) {
            tell("measure", () -> x.measure(lot, lot == 4 ? 499 : 101));
            tell("hold", () -> x.hold(lot, true));
            tell("hold", () -> x.hold(lot, false));
        }
    }

    private void goOnWithParts() {
        for (int i = 0; i < 6; i++) {
            int part = i;
            tell("chart", () -> x.setChart(part, 100, 10));
            tell("component", () -> x.addComponent(part, 0, 1, -1));
            tell("operation", () -> x.addOperation(part, 0, -1, 1));
        }
        tell("machine", () -> x.addMachine(1, 1, 5, 1));
        tell("part", () -> x.addPart(true, 3));
    }

    private void goOnToTheEnd() {
        tell("order", () -> x.order(2, 1, 1, 3));
        tell("promise", () -> x.promise(10));
        tell("withdraw", () -> x.withdraw(10));
        for (int i = 0; i < 4; i++) {
            tell("advance", () -> x.advance(60));
        }
        for (int i = 0; i < 11; i++) {
            int order = i;
            tell("deliver", () -> x.deliver(order));
            tell("at", () -> x.finishedAt(order));
            tell("cost", () -> x.deliveredCost(order));
        }
        for (int i = 0; i < 5; i++) {
            int machine = i;
            tell("wear", () -> x.wear(machine));
        }
        tell("share", x::inTimeShare);
        tell("busy", x::meanBusy);
        tell("sound", x::isSound);
    }
}
