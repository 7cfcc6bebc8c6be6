import java.util.ArrayList;
import java.util.List;
import java.util.Map;
import java.util.TreeMap;
import java.util.function.Supplier;

/**
 * Runs of 512 random calls, with ordinary and wrong numbers, each answered alike by Foundrymark
 * and by PlainFactory; the numbers come from a fixed rule, so that every run of it is the same.
 */
public final class RandomRunsTest {
    private static final int RUNS = 4000;
    private static final int CALLS = 512;
    /** Answers that tell that the runs reach what they are to test. */
    private static final String[] REACHED = {
        "hold 2", "measure true", "isIn true", "rule r", "rule t", "isHeld true", "stateOf w",
        "machineIs b", "promise false", "release false", "deliver false", "deliver true",
        "lotOf throws.NoSuchElementException", "receive throws.IllegalStateException",
        "order throws.IllegalStateException", "addPart throws.IllegalStateException", "advance throws.IllegalStateException",
    };
    private static final Map<String, Integer> SEEN = new TreeMap<>();

    private final List<String> told = new ArrayList<>();
    private final Foundrymark x = new Foundrymark();
    private final PlainFactory plain = new PlainFactory();
    private final boolean isLong;
    private long seed;
    private boolean isWrong;

    public static void main(String[] args) {
        int wrong = 0;
        for (int run = 0; run < RUNS && wrong < 3; run++) {
            RandomRunsTest test = new RandomRunsTest(run);
            test.run();
            wrong += test.isWrong ? 1 : 0;
        }
        for (String reached : REACHED) {
            if (wrong == 0 && SEEN.getOrDefault(reached, 0) == 0) {
                System.out.println("RandomRunsTest: no run reached: " + reached);
                wrong++;
            }
        }
        if (args.length > 0) {
            SEEN.forEach((what, times) -> System.out.println(what + ": " + times));
        }
        System.out.println("RandomRunsTest: " + RUNS + " runs, " + wrong + " wrong");
        if (wrong != 0) {
            System.exit(1);
        }
    }

    private RandomRunsTest(int run) {
        seed = run * 2862933555777941757L + 3037000493L;
        isLong = run % 10 == 0;
    }

    private void run() {
        buildFactory();
        while (told.size() < CALLS - 2 && !isWrong) {
            int kind = below(100);
            if (kind < 3) {
                build(below(4), madePart());
            } else if (kind < 60) {
                act(below(20));
            } else {
                ask(below(21));
            }
        }
        if (isWrong) {
            told.forEach(System.out::println);
        }
    }

    /** The next number from 0 to most - 1. */
    private int below(int most) {
        seed = seed * 6364136223846793005L + 1442695040888963407L;
        return (int) ((seed >>> 33) % most);
    }

    /** A number from least to most, or, once in a while, one just outside or far away. */
    private int number(int least, int most) {
        switch (below(100)) {
            case 0:
                return least - 1;
            case 1:
                return most + 1;
            case 2:
                return below(2) == 0 ? Integer.MAX_VALUE : Integer.MIN_VALUE;
            case 3:
                return least;
            case 4:
                return most;
            default:
                return least + below(most - least + 1);
        }
    }

    private int machine() {
        return number(0, Math.max(0, plain.machines.size() - 1));
    }

    private int lot() {
        return number(0, Math.max(0, plain.lots.size() - 1));
    }

    private int part(boolean isMade) {
        int part = number(0, Math.max(0, plain.parts.size() - 1));
        for (int i = 0; i < 20 && part >= 0 && part < plain.parts.size()
                && plain.parts.get(part).isMade != isMade; i++) {
            part = number(0, Math.max(0, plain.parts.size() - 1));
        }
        return part;
    }

    private int madePart() {
        return part(below(20) != 0);
    }

    private int boughtPart() {
        return part(below(20) == 0);
    }

    /** Most often the number of an order in one of these states. */
    private int order(String states) {
        List<Integer> fit = new ArrayList<>();
        for (PlainFactory.Order order : plain.orders) {
            if (states.indexOf(order.state) >= 0) {
                fit.add(order.number);
            }
        }
        boolean isAny = fit.isEmpty() || below(8) == 0;
        return isAny ? number(0, Math.max(0, plain.orders.size() - 1)) : fit.get(below(fit.size()));
    }

    /** Most often the number of a lot that is made of others. */
    private int madeLot() {
        int lot = lot();
        for (int i = 0; i < 20 && sourceOf(lot) == lot; i++) {
            lot = lot();
        }
        return lot;
    }

    /** Most often the number of a lot with reserved pieces, or of one that is in such a lot. */
    private int reservedLot() {
        int lot = lot();
        for (int i = 0; i < 20 && (lot < 0 || lot >= plain.lots.size()
                || plain.reserved(lot) == 0); i++) {
            lot = lot();
        }
        return below(2) == 0 ? lot : sourceOf(lot);
    }

    /** The number of a lot that is in this one, or its own if there is none. */
    private int sourceOf(int lot) {
        if (lot < 0 || lot >= plain.lots.size() || plain.lots.get(lot).sources.isEmpty()) {
            return lot;
        }
        List<PlainFactory.Lot> sources = plain.lots.get(lot).sources;
        int source = sources.get(below(sources.size())).number;
        return below(2) == 0 ? source : sourceOf(source);
    }

    private void buildFactory() {
        int machines = 1 + below(3);
        for (int i = 0; i < machines; i++) {
            build(0, 0);
        }
        int bought = 1 + below(3);
        int all = bought + 1 + below(4);
        for (int i = 0; i < all; i++) {
            boolean isMade = i >= bought;
            int family = number(0, 3);
            same("addPart(" + isMade + "," + family, () -> x.addPart(isMade, family),
                    () -> plain.addPart(isMade, family));
        }
        for (int part = bought; part < all; part++) {
            for (int i = below(3); i >= 0; i--) {
                build(2, part);
            }
            for (int i = below(4); i > 0; i--) {
                build(3, part);
            }
        }
        for (int i = 0; i < 10; i++) {
            receive();
        }
    }

    private void build(int kind, int part) {
        switch (kind) {
            case 0:
                int rate = number(0, 20);
                int setup = number(0, 9);
                int life = number(5, 40);
                int repair = number(1, 15);
                same("addMachine(" + rate + "," + setup + "," + life + "," + repair,
                        () -> x.addMachine(rate, setup, life, repair),
                        () -> plain.addMachine(rate, setup, life, repair));
                break;
            case 1:
                boolean isMade = below(2) == 0;
                int family = number(0, 3);
                same("addPart(" + isMade + "," + family, () -> x.addPart(isMade, family),
                        () -> plain.addPart(isMade, family));
                break;
            case 2:
                int component = number(below(3) == 0 ? 0 : Math.max(0, part - 3), Math.max(0, part - 1));
                int pieces = below(5) == 0 ? number(1, 9) : number(1, 2);
                int option = below(2) == 0 ? -1 : number(-1, 2);
                same("addComponent(" + part + "," + component + "," + pieces + "," + option,
                        () -> x.addComponent(part, component, pieces, option),
                        () -> plain.addComponent(part, component, pieces, option));
                break;
            default:
                int m = machine();
                int n = below(2) == 0 ? -1 : machine();
                int time = below(5) == 0 ? number(1, 20) : number(1, 3);
                same("addOperation(" + part + "," + m + "," + n + "," + time,
                        () -> x.addOperation(part, m, n, time),
                        () -> plain.addOperation(part, m, n, time));
                break;
        }
    }

    private void act(int kind) {
        int l = lot();
        switch (kind) {
            case 0:
            case 1:
                for (int i = isLong ? 3 : 1; i > 0; i--) {
                    receive();
                }
                break;
            case 2:
                boolean isOn = below(5) == 0;
                int h = isOn ? reservedLot() : l;
                same("hold(" + h + "," + isOn, () -> x.hold(h, isOn), () -> plain.hold(h, isOn));
                break;
            case 3:
                int p = boughtPart();
                int centre = below(5) == 0 ? number(0, 1000) : 100;
                int width = number(0, 500);
                if (below(4) == 0) {
                    same("setChart(" + p + "," + centre + "," + width,
                            () -> x.setChart(p, centre, width),
                            () -> plain.setChart(p, centre, width));
                }
                break;
            case 4:
                int value = below(30) == 0 ? number(0, 2000) : number(97, 103);
                same("measure(" + l + "," + value, () -> x.measure(l, value),
                        () -> plain.measure(l, value));
                break;
            case 5:
            case 6:
                placeOrder();
                break;
            default:
                work(kind);
                break;
        }
    }

    private void receive() {
        int p = boughtPart();
        int quantity = below(2) == 0 ? number(1, 500) : number(10, 60);
        int cost = number(0, 999);
        int supplier = number(0, 3);
        int bad = below(9) == 0 ? number(0, 20) : number(0, 3);
        same("receive(" + p + "," + quantity + "," + cost + "," + supplier + "," + bad,
                () -> x.receive(p, quantity, cost, supplier, bad),
                () -> plain.receive(p, quantity, cost, supplier, bad));
    }

    private void placeOrder() {
        int p = below(6) == 0 ? boughtPart() : madePart();
        int pieces = below(9) == 0 ? number(1, 100) : number(1, 8);
        int option = number(0, 2);
        int due = below(9) == 0 ? number(0, 9999) : plain.now + below(40);
        same("order(" + p + "," + pieces + "," + option + "," + due,
                () -> x.order(p, pieces, option, due), () -> plain.order(p, pieces, option, due));
    }

    private void work(int kind) {
        switch (kind) {
            case 7:
            case 8:
                int promised = order("-");
                same("promise(" + promised, () -> x.promise(promised),
                        () -> plain.promise(promised));
                break;
            case 9:
                int withdrawn = order("p");
                if (below(5) == 0) {
                    same("withdraw(" + withdrawn, () -> x.withdraw(withdrawn),
                            () -> plain.withdraw(withdrawn));
                }
                break;
            case 10:
                int released = order(below(3) == 0 ? "-p" : "p");
                same("release(" + released, () -> x.release(released),
                        () -> plain.release(released));
                break;
            case 11:
                int job = order("wo");
                int scrapped = below(3) == 0 ? number(1, 8) : 1;
                same("scrap(" + job + "," + scrapped, () -> x.scrap(job, scrapped),
                        () -> plain.scrap(job, scrapped));
                break;
            case 12:
            case 13:
                int o = order("f-");
                if (below(4) == 0) {
                    same("deliver(" + o, () -> x.deliver(o), () -> plain.deliver(o));
                }
                break;
            default:
                int by = isLong || below(15) == 0 ? number(1, 500) : number(1, 9);
                same("advance(" + by, () -> x.advance(by), () -> plain.advance(by));
                break;
        }
    }

    private void ask(int kind) {
        int l = lot();
        int k = lot();
        int s = number(0, 3);
        switch (kind) {
            case 0:
                same("rule(" + s, () -> x.rule(s), () -> plain.rule(s));
                break;
            case 1:
                same("isHeld(" + l, () -> x.isHeld(l), () -> plain.isHeld(l));
                break;
            case 2:
                same("lots(", () -> x.lots(), () -> plain.lots.size());
                break;
            case 3:
                same("partOf(" + l, () -> x.partOf(l), () -> plain.partOf(l));
                break;
            case 4:
                same("rest(" + l, () -> x.rest(l), () -> plain.rest(l));
                break;
            case 5:
                same("reserved(" + l, () -> x.reserved(l), () -> plain.reserved(l));
                break;
            case 6:
                same("costOf(" + l, () -> x.costOf(l), () -> plain.costOf(l));
                break;
            case 7:
                int above = below(2) == 0 ? k : madeLot();
                int under = below(2) == 0 ? l : sourceOf(above);
                same("isIn(" + under + "," + above, () -> x.isIn(under, above),
                        () -> plain.isIn(under, above));
                break;
            case 8:
                same("touched(" + l, () -> x.touched(l), () -> plain.touched(l));
                break;
            case 9:
                same("inTimeShare(", () -> x.inTimeShare(), () -> plain.inTimeShare());
                break;
            case 10:
                same("meanBusy(", () -> x.meanBusy(), () -> plain.meanBusy());
                break;
            case 11:
            case 12:
                same("isSound(", () -> x.isSound(), () -> true);
                break;
            default:
                askOrderOrMachine(kind);
                break;
        }
    }

    private void askOrderOrMachine(int kind) {
        int o = order("wofd");
        int m = machine();
        switch (kind) {
            case 13:
                same("stateOf(" + o, () -> x.stateOf(o), () -> plain.stateOf(o));
                break;
            case 14:
                same("lotOf(" + o, () -> x.lotOf(o), () -> plain.lotOf(o));
                break;
            case 15:
                same("finishedAt(" + o, () -> x.finishedAt(o), () -> plain.finishedAt(o));
                break;
            case 16:
                same("lotsIn(" + o, () -> x.lotsIn(o), () -> plain.lotsIn(o));
                break;
            case 17:
                same("deliveredCost(" + o, () -> x.deliveredCost(o), () -> plain.deliveredCost(o));
                break;
            case 18:
                same("machineIs(" + m, () -> x.machineIs(m), () -> plain.machineIs(m));
                break;
            case 19:
                same("wear(" + m, () -> x.wear(m), () -> plain.wear(m));
                break;
            default:
                same("waiting(" + m, () -> x.waiting(m), () -> plain.waiting(m));
                break;
        }
    }

    private void same(String call, Supplier<Object> got, Supplier<Object> due) {
        String answer = answer(got);
        String wanted = answer(due);
        told.add(call + ") answered " + answer + ", due is " + wanted);
        isWrong |= !answer.equals(wanted);
        SEEN.merge(call.substring(0, call.indexOf('(')) + " " + answer, 1, Integer::sum);
    }

    private static String answer(Supplier<Object> call) {
        try {
            return String.valueOf(call.get());
        } catch (RuntimeException e) {
            return "throws." + e.getClass().getSimpleName();
        }
    }
}
