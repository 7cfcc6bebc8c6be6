import java.util.ArrayList;
import java.util.List;
import java.util.Map;
import java.util.NoSuchElementException;
import java.util.TreeMap;

/**
 * The document once more, written another way: histories are kept whole, and every answer is
 * counted anew from them, so that random runs can be held against it.
 */
final class PlainFactory {
    static final class Machine {
        int rate, setup, life, repair, family = -1, wear, ends;
        boolean isBroken;
        Order doing;
        final List<Order> queue = new ArrayList<>();
        final List<int[]> spans = new ArrayList<>();
    }

    static final class Part {
        boolean isMade;
        int family, centre = 100, width = 10, measured;
        final List<int[]> components = new ArrayList<>();
        final List<int[]> operations = new ArrayList<>();
        final List<Integer> values = new ArrayList<>();
    }

    static final class Lot {
        int number, part, rest;
        long cost;
        boolean isOnHold;
        final List<Lot> sources = new ArrayList<>();
    }

    static final class Order {
        int number, part, quantity, option, due, pieces, done, finishedAt = -1, deliveredAt;
        long cost, deliveredCost;
        char state = '-';
        Lot made;
        final Map<Integer, Integer> needs = new TreeMap<>();
        final List<Lot> delivered = new ArrayList<>();
    }

    final List<Machine> machines = new ArrayList<>();
    final List<Part> parts = new ArrayList<>();
    final List<Lot> lots = new ArrayList<>();
    final List<Order> orders = new ArrayList<>();
    final char[] rules = {'n', 'n', 'n', 'n'};
    final List<List<Boolean>> histories = new ArrayList<>();
    int now;
    int bought;

    PlainFactory() {
        for (int i = 0; i < 4; i++) {
            histories.add(new ArrayList<>());
        }
    }

    private static void index(int number, List<?> list) {
        if (number < 0 || number >= list.size()) {
            throw new IndexOutOfBoundsException();
        }
    }

    private static void supported(boolean isSo) {
        if (!isSo) {
            throw new UnsupportedOperationException();
        }
    }

    private static void range(int number, int least, int most) {
        if (number < least || number > most) {
            throw new IllegalArgumentException();
        }
    }

    private static void room(boolean isSo) {
        if (!isSo) {
            throw new IllegalStateException();
        }
    }

    int addMachine(int rate, int setup, int life, int repair) {
        range(rate, 0, 20);
        range(setup, 0, 50);
        range(life, 5, 500);
        range(repair, 1, 99);
        room(machines.size() < 5);
        Machine m = new Machine();
        m.rate = rate;
        m.setup = setup;
        m.life = life;
        m.repair = repair;
        machines.add(m);
        return machines.size() - 1;
    }

    int addPart(boolean isMade, int family) {
        range(family, 0, 3);
        room(parts.size() < 12);
        Part p = new Part();
        p.isMade = isMade;
        p.family = family;
        parts.add(p);
        return parts.size() - 1;
    }

    int addComponent(int part, int component, int pieces, int option) {
        index(part, parts);
        index(component, parts);
        supported(parts.get(part).isMade && component < part);
        range(pieces, 1, 9);
        range(option, -1, 2);
        List<int[]> all = parts.get(part).components;
        room(all.size() < 4);
        all.add(new int[] {component, pieces, option});
        return all.size();
    }

    int addOperation(int part, int machine, int alternative, int time) {
        index(part, parts);
        index(machine, machines);
        if (alternative != -1) {
            index(alternative, machines);
        }
        supported(parts.get(part).isMade);
        range(time, 1, 20);
        List<int[]> all = parts.get(part).operations;
        room(all.size() < 3);
        all.add(new int[] {machine, alternative, time});
        return all.size();
    }

    int receive(int part, int quantity, int cost, int supplier, int bad) {
        index(part, parts);
        supported(!parts.get(part).isMade);
        range(quantity, 1, 500);
        range(cost, 0, 999);
        range(supplier, 0, 3);
        range(bad, 0, 20);
        room(bought < 60);
        bought++;
        Lot lot = newLot(part, quantity, (long) quantity * cost);
        lot.isOnHold = inspect(supplier, bad);
        return lot.number;
    }

    private Lot newLot(int part, int quantity, long cost) {
        Lot lot = new Lot();
        lot.number = lots.size();
        lot.part = part;
        lot.rest = quantity;
        lot.cost = cost;
        lots.add(lot);
        return lot;
    }

    private boolean inspect(int supplier, int bad) {
        char rule = rules[supplier];
        List<Boolean> history = histories.get(supplier);
        boolean isRefused = bad > Map.of('n', 2, 't', 1, 'r', 4).get(rule);
        history.add(isRefused);
        int size = history.size();
        long refused = history.subList(Math.max(0, size - 5), size).stream().filter(b -> b).count();
        char next = rule;
        if (rule == 'n' && refused >= 2) {
            next = 't';
        } else if (rule == 'n' && size >= 4 && !history.subList(size - 4, size).contains(true)) {
            next = 'r';
        } else if (rule == 't' && size >= 3 && !history.subList(size - 3, size).contains(true)) {
            next = 'n';
        } else if (rule == 'r' && isRefused) {
            next = 'n';
        }
        if (next != rule) {
            history.clear();
            rules[supplier] = next;
        }
        return isRefused;
    }

    char rule(int supplier) {
        index(supplier, histories);
        return rules[supplier];
    }

    private boolean isHeld(Lot lot) {
        return lot.isOnHold || lot.sources.stream().anyMatch(this::isHeld);
    }

    private int losePromises() {
        int lost = 0;
        for (Order o : orders) {
            if (o.state == 'p' && o.needs.keySet().stream().anyMatch(l -> isHeld(lots.get(l)))) {
                o.state = '-';
                o.needs.clear();
                lost++;
            }
        }
        return lost;
    }

    int hold(int lot, boolean isOn) {
        index(lot, lots);
        lots.get(lot).isOnHold = isOn;
        return losePromises();
    }

    boolean isHeld(int lot) {
        index(lot, lots);
        return isHeld(lots.get(lot));
    }

    int setChart(int part, int centre, int width) {
        index(part, parts);
        range(centre, 0, 1000);
        range(width, 0, 500);
        Part p = parts.get(part);
        p.centre = centre;
        p.width = width;
        p.values.clear();
        return p.measured;
    }

    boolean measure(int lot, int value) {
        index(lot, lots);
        range(value, 0, 2000);
        Lot l = lots.get(lot);
        Part p = parts.get(l.part);
        p.measured++;
        p.values.add(value);
        int above = 0;
        int below = 0;
        for (int i = p.values.size() - 1; i >= 0 && p.values.get(i) > p.centre; i--) {
            above++;
        }
        for (int i = p.values.size() - 1; i >= 0 && p.values.get(i) < p.centre; i--) {
            below++;
        }
        boolean isOut = value > p.centre + p.width || value < p.centre - p.width;
        boolean isNew = (isOut || above >= 4 || below >= 4) && !l.isOnHold;
        if (isNew) {
            l.isOnHold = true;
            losePromises();
        }
        return isNew;
    }

    int partOf(int lot) {
        index(lot, lots);
        return lots.get(lot).part;
    }

    int rest(int lot) {
        index(lot, lots);
        return lots.get(lot).rest;
    }

    int reserved(int lot) {
        index(lot, lots);
        return orders.stream().filter(o -> o.state == 'p')
                .mapToInt(o -> o.needs.getOrDefault(lot, 0)).sum();
    }

    long costOf(int lot) {
        index(lot, lots);
        return lots.get(lot).cost;
    }

    int order(int part, int quantity, int option, int due) {
        index(part, parts);
        range(quantity, 1, 100);
        range(option, 0, 2);
        range(due, 0, 9999);
        room(orders.size() < 30);
        Order o = new Order();
        o.number = orders.size();
        o.part = part;
        o.quantity = quantity;
        o.option = option;
        o.due = due;
        orders.add(o);
        return o.number;
    }

    private int free(Lot lot) {
        return isHeld(lot) ? 0 : lot.rest - reserved(lot.number);
    }

    boolean promise(int order) {
        index(order, orders);
        Order o = orders.get(order);
        supported(parts.get(o.part).isMade && o.state == '-');
        Map<Integer, Integer> plan = new TreeMap<>();
        for (int[] c : parts.get(o.part).components) {
            int missing = c[2] == -1 || c[2] == o.option ? o.quantity * c[1] : 0;
            for (Lot lot : lots) {
                int some = lot.part != c[0] ? 0
                        : Math.min(missing, free(lot) - plan.getOrDefault(lot.number, 0));
                if (some > 0) {
                    plan.merge(lot.number, some, Integer::sum);
                    missing -= some;
                }
            }
            if (missing > 0) {
                return false;
            }
        }
        o.needs.putAll(plan);
        o.state = 'p';
        return true;
    }

    int withdraw(int order) {
        index(order, orders);
        Order o = orders.get(order);
        supported(o.state == 'p');
        int sum = o.needs.values().stream().mapToInt(i -> i).sum();
        o.needs.clear();
        o.state = '-';
        return sum;
    }

    private static long take(Lot lot, int pieces) {
        long share = lot.cost * pieces / lot.rest;
        lot.cost -= share;
        lot.rest -= pieces;
        return share;
    }

    boolean release(int order) {
        index(order, orders);
        Order o = orders.get(order);
        supported(parts.get(o.part).isMade && (o.state == '-' || o.state == 'p'));
        if (o.state == '-' && !promise(order)) {
            return false;
        }
        o.needs.forEach((lot, pieces) -> o.cost += take(lots.get(lot), pieces));
        o.pieces = o.quantity;
        goOn(o);
        machines.forEach(this::begin);
        return true;
    }

    private void goOn(Order o) {
        List<int[]> all = parts.get(o.part).operations;
        if (o.done < all.size()) {
            int[] operation = all.get(o.done);
            Machine m = machines.get(operation[0]);
            Machine other = operation[1] < 0 ? m : machines.get(operation[1]);
            o.state = 'w';
            (jobsAt(other) < jobsAt(m) ? other : m).queue.add(o);
            return;
        }
        o.state = 'f';
        o.finishedAt = now;
        if (o.pieces > 0) {
            o.made = newLot(o.part, o.pieces, o.cost);
            o.needs.keySet().forEach(l -> o.made.sources.add(lots.get(l)));
        }
    }

    private static int jobsAt(Machine m) {
        return m.queue.size() + (m.doing == null ? 0 : 1);
    }

    private void begin(Machine m) {
        if (m.doing != null || m.isBroken || m.queue.isEmpty()) {
            return;
        }
        m.queue.sort((a, b) -> a.due != b.due ? a.due - b.due : a.number - b.number);
        Order o = m.queue.remove(0);
        Part p = parts.get(o.part);
        int time = p.operations.get(o.done)[2] * o.pieces + (m.family == p.family ? 0 : m.setup);
        m.family = p.family;
        m.doing = o;
        m.ends = now + (time < 1 ? 1 : time);
        m.spans.add(new int[] {now, m.ends});
        o.state = 'o';
        o.cost += (long) (m.ends - now) * m.rate;
    }

    private void end(Machine m) {
        if (m.ends != now || (m.doing == null && !m.isBroken)) {
            return;
        }
        if (m.isBroken) {
            m.isBroken = false;
            return;
        }
        Order o = m.doing;
        m.doing = null;
        m.wear += o.pieces;
        if (m.wear >= m.life) {
            m.wear = 0;
            m.isBroken = true;
            m.ends = now + m.repair;
        }
        o.done++;
        goOn(o);
    }

    int scrap(int order, int pieces) {
        index(order, orders);
        Order o = orders.get(order);
        supported(o.state == 'w' || o.state == 'o');
        range(pieces, 1, o.pieces);
        o.pieces -= pieces;
        return o.pieces;
    }

    int advance(int by) {
        range(by, 1, 500);
        room(now + by <= 5000);
        int until = now + by;
        while (now < until) {
            now++;
            machines.forEach(this::end);
            machines.forEach(this::begin);
        }
        return now;
    }

    boolean deliver(int order) {
        index(order, orders);
        Order o = orders.get(order);
        supported(parts.get(o.part).isMade ? o.state == 'f' : o.state == '-');
        List<Lot> row = new ArrayList<>(lots);
        if (o.made != null) {
            row.remove(o.made);
            row.add(0, o.made);
        }
        row.removeIf(l -> l.part != o.part || free(l) == 0);
        if (row.stream().mapToInt(this::free).sum() < o.quantity) {
            return false;
        }
        int missing = o.quantity;
        for (Lot lot : row) {
            int some = Math.min(missing, free(lot));
            if (some > 0) {
                o.deliveredCost += take(lot, some);
                o.delivered.add(lot);
                missing -= some;
            }
        }
        o.state = 'd';
        o.deliveredAt = now;
        return true;
    }

    char stateOf(int order) {
        index(order, orders);
        return orders.get(order).state;
    }

    int lotOf(int order) {
        index(order, orders);
        if (orders.get(order).made == null) {
            throw new NoSuchElementException();
        }
        return orders.get(order).made.number;
    }

    int finishedAt(int order) {
        index(order, orders);
        if (orders.get(order).finishedAt < 0) {
            throw new NoSuchElementException();
        }
        return orders.get(order).finishedAt;
    }

    char machineIs(int machine) {
        index(machine, machines);
        Machine m = machines.get(machine);
        return m.isBroken ? 'b' : m.doing != null ? 'o' : '-';
    }

    int wear(int machine) {
        index(machine, machines);
        return machines.get(machine).wear;
    }

    int waiting(int machine) {
        index(machine, machines);
        return machines.get(machine).queue.size();
    }

    private static boolean isIn(Lot lot, Lot other) {
        return other.sources.stream().anyMatch(s -> s == lot || isIn(lot, s));
    }

    private static boolean isIn(Lot lot, Order order) {
        return order.delivered.stream().anyMatch(d -> d == lot || isIn(lot, d));
    }

    boolean isIn(int lot, int other) {
        index(lot, lots);
        index(other, lots);
        return isIn(lots.get(lot), lots.get(other));
    }

    int touched(int lot) {
        index(lot, lots);
        return (int) orders.stream().filter(o -> isIn(lots.get(lot), o)).count();
    }

    int lotsIn(int order) {
        index(order, orders);
        return (int) lots.stream().filter(l -> isIn(l, orders.get(order))).count();
    }

    long deliveredCost(int order) {
        index(order, orders);
        if (orders.get(order).state != 'd') {
            throw new NoSuchElementException();
        }
        return orders.get(order).deliveredCost;
    }

    float inTimeShare() {
        long all = orders.stream().filter(o -> o.state == 'd').count();
        if (all == 0) {
            throw new ArithmeticException();
        }
        long inTime = orders.stream().filter(o -> o.state == 'd' && o.deliveredAt <= o.due).count();
        return (float) inTime / (float) all;
    }

    double meanBusy() {
        if (machines.isEmpty()) {
            throw new ArithmeticException();
        }
        int sum = 0;
        for (Machine m : machines) {
            for (int[] span : m.spans) {
                sum += Math.min(span[1], now) - span[0];
            }
        }
        return (double) sum / (double) machines.size();
    }
}
