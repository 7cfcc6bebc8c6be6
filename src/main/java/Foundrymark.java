import java.util.NoSuchElementException;

/** A factory whose every piece can be told back. */
public final class Foundrymark {
    private static final int MOST_MACHINES = 5;
    private static final int MOST_PARTS = 12;
    private static final int MOST_COMPONENTS = 4;
    private static final int MOST_OPERATIONS = 3;
    private static final int MOST_BOUGHT = 60;
    private static final int MOST_ORDERS = 30;
    // An order makes at most one lot, so that bought ones and made ones never pass this.
    private static final int MOST_LOTS = 90;
    private static final int SUPPLIERS = 4;
    private static final int LAST_FAMILY = 3;
    private static final int LAST_OPTION = 2;
    private static final int LAST_TIME = 5000;
    private static final int NONE = -1;

    private static final char NORMAL = 'n';
    private static final char TIGHT = 't';
    private static final char REDUCED = 'r';

    private static final char UNTOUCHED = '-';
    private static final char PROMISED = 'p';
    private static final char WAITS = 'w';
    private static final char AT_WORK = 'o';
    private static final char FINISHED = 'f';
    private static final char DELIVERED = 'd';

    private static final char FREE = '-';
    private static final char BROKEN = 'b';

    private final Machine[] machines = new Machine[MOST_MACHINES];
    private final Part[] parts = new Part[MOST_PARTS];
    private final Supplier[] suppliers = new Supplier[SUPPLIERS];
    private final Lot[] lots = new Lot[MOST_LOTS];
    private final Order[] orders = new Order[MOST_ORDERS];
    private final NumberSet onHold = new NumberSet();
    private int machineCount;
    private int partCount;
    private int lotCount;
    private int boughtCount;
    private int orderCount;
    private int now;
    private long costIn;
    private long costLost;

    public Foundrymark() {
        for (int i = 0; i < suppliers.length; i++) {
            suppliers[i] = new Supplier();
        }
    }

    // ---- parts and machines

    public int addMachine(int rate, int setup, int life, int repair)
            throws IllegalArgumentException, IllegalStateException {
        if (!isFrom(rate, 0, 20) || !isFrom(setup, 0, 50)
                || !isFrom(life, 5, 500) || !isFrom(repair, 1, 99)) {
            throw new IllegalArgumentException("a number of the machine is out of range");
        }
        if (machineCount >= machines.length) {
            throw new IllegalStateException("there are 5 machines");
        }
        machines[machineCount] = new Machine(rate, setup, life, repair);
        machineCount++;
        return machineCount - 1;
    }

    public int addPart(boolean isMade, int family)
            throws IllegalArgumentException, IllegalStateException {
        if (!isFrom(family, 0, LAST_FAMILY)) {
            throw new IllegalArgumentException("there is no such family");
        }
        if (partCount >= parts.length) {
            throw new IllegalStateException("there are 12 parts");
        }
        parts[partCount] = new Part(partCount, isMade, family);
        partCount++;
        return partCount - 1;
    }

    public int addComponent(int part, int component, int pieces, int option)
            throws IndexOutOfBoundsException, UnsupportedOperationException,
            IllegalArgumentException, IllegalStateException {
        Part whole = knownPart(part);
        Part inner = knownPart(component);
        if (!whole.isMade || component >= part) {
            throw new UnsupportedOperationException("the part cannot have this component");
        }
        if (!isFrom(pieces, 1, 9) || !isFrom(option, NONE, LAST_OPTION)) {
            throw new IllegalArgumentException("a number of the component is out of range");
        }
        if (!whole.hasRoomForComponent()) {
            throw new IllegalStateException("the part has 4 components");
        }
        return whole.putComponent(new Component(inner, pieces, option));
    }

    public int addOperation(int part, int machine, int alternative, int time)
            throws IndexOutOfBoundsException, UnsupportedOperationException,
            IllegalArgumentException, IllegalStateException {
        Part worked = knownPart(part);
        Machine first = knownMachine(machine);
        Machine second = alternative == NONE ? null : knownMachine(alternative);
        if (!worked.isMade) {
            throw new UnsupportedOperationException("the part is bought");
        }
        if (!isFrom(time, 1, 20)) {
            throw new IllegalArgumentException("the time is out of range");
        }
        if (!worked.hasRoomForOperation()) {
            throw new IllegalStateException("the part has 3 operations");
        }
        return worked.putOperation(new Operation(first, second, time));
    }

    // ---- lots

    public int receive(int part, int quantity, int cost, int supplier, int bad)
            throws IndexOutOfBoundsException, UnsupportedOperationException,
            IllegalArgumentException, IllegalStateException {
        Part bought = knownPart(part);
        Supplier from = findSupplier(supplier);
        if (bought.isMade) {
            throw new UnsupportedOperationException("the part is made");
        }
        if (from == null || !isFrom(quantity, 1, 500)
                || !isFrom(cost, 0, 999) || !isFrom(bad, 0, 20)) {
            throw new IllegalArgumentException("a number of the lot is out of range");
        }
        if (boughtCount >= MOST_BOUGHT) {
            throw new IllegalStateException("there are 60 bought lots");
        }
        boughtCount++;
        long whole = (long) quantity * cost;
        costIn += whole;
        Lot lot = putLot(bought, quantity, whole);
        if (from.refuses(bad)) {
            onHold.add(lot.number);
        }
        return lot.number;
    }

    public char rule(int supplier) throws IndexOutOfBoundsException {
        Supplier found = findSupplier(supplier);
        if (found == null) {
            throw new IndexOutOfBoundsException("there is no such supplier");
        }
        return found.rule;
    }

    public int hold(int lot, boolean isOn) throws IndexOutOfBoundsException {
        Lot found = knownLot(lot);
        if (isOn) {
            return putOnHold(found);
        }
        onHold.remove(lot);
        return 0;
    }

    public boolean isHeld(int lot) throws IndexOutOfBoundsException {
        return isBarred(knownLot(lot));
    }

    public int setChart(int part, int centre, int width)
            throws IndexOutOfBoundsException, IllegalArgumentException {
        Part found = knownPart(part);
        if (!isFrom(centre, 0, 1000) || !isFrom(width, 0, 500)) {
            throw new IllegalArgumentException("a number of the chart is out of range");
        }
        found.chart.begin(centre, width);
        return found.chart.measured;
    }

    public boolean measure(int lot, int value)
            throws IndexOutOfBoundsException, IllegalArgumentException {
        Lot found = knownLot(lot);
        if (!isFrom(value, 0, 2000)) {
            throw new IllegalArgumentException("the value is out of range");
        }
        boolean isAlarm = found.part.chart.alarms(value);
        if (!isAlarm || onHold.has(lot)) {
            return false;
        }
        putOnHold(found);
        return true;
    }

    public int lots() {
        return lotCount;
    }

    public int partOf(int lot) throws IndexOutOfBoundsException {
        return knownLot(lot).part.number;
    }

    public int rest(int lot) throws IndexOutOfBoundsException {
        return knownLot(lot).rest;
    }

    public int reserved(int lot) throws IndexOutOfBoundsException {
        return knownLot(lot).reserved;
    }

    public long costOf(int lot) throws IndexOutOfBoundsException {
        return knownLot(lot).cost;
    }

    // ---- orders and jobs

    public int order(int part, int quantity, int option, int due)
            throws IndexOutOfBoundsException, IllegalArgumentException, IllegalStateException {
        Part found = knownPart(part);
        if (!isFrom(quantity, 1, 100) || !isFrom(option, 0, LAST_OPTION)
                || !isFrom(due, 0, 9999)) {
            throw new IllegalArgumentException("a number of the order is out of range");
        }
        if (orderCount >= orders.length) {
            throw new IllegalStateException("there are 30 orders");
        }
        orders[orderCount] = new Order(orderCount, found, quantity, option, due);
        orderCount++;
        return orderCount - 1;
    }

    public boolean promise(int order)
            throws IndexOutOfBoundsException, UnsupportedOperationException {
        Order found = knownOrder(order);
        if (!found.part.isMade || found.state != UNTOUCHED) {
            throw new UnsupportedOperationException("the order cannot be promised");
        }
        return reserveAll(found);
    }

    public int withdraw(int order)
            throws IndexOutOfBoundsException, UnsupportedOperationException {
        Order found = knownOrder(order);
        if (found.state != PROMISED) {
            throw new UnsupportedOperationException("the order has no promise");
        }
        return dropPromise(found);
    }

    public boolean release(int order)
            throws IndexOutOfBoundsException, UnsupportedOperationException {
        Order found = knownOrder(order);
        if (!found.part.isMade || (found.state != UNTOUCHED && found.state != PROMISED)) {
            throw new UnsupportedOperationException("the order cannot be released");
        }
        if (found.state != PROMISED && !reserveAll(found)) {
            return false;
        }
        takeReserved(found);
        Machine machine = sendOn(found);
        if (machine == null) {
            finish(found);
        } else {
            beginNext(machine);
        }
        return true;
    }

    public int scrap(int order, int pieces) throws IndexOutOfBoundsException,
            UnsupportedOperationException, IllegalArgumentException {
        Order found = knownOrder(order);
        if (!found.isInWork()) {
            throw new UnsupportedOperationException("the order has no job in work");
        }
        Job job = found.job;
        if (!isFrom(pieces, 1, job.pieces)) {
            throw new IllegalArgumentException("the job does not have so many pieces");
        }
        job.pieces -= pieces;
        job.scrapped += pieces;
        return job.pieces;
    }

    public int advance(int by) throws IllegalArgumentException, IllegalStateException {
        if (!isFrom(by, 1, 500)) {
            throw new IllegalArgumentException("the time is out of range");
        }
        if (now + by > LAST_TIME) {
            throw new IllegalStateException("the time would be later than 5000");
        }
        for (int i = 0; i < by; i++) {
            passTime();
        }
        return now;
    }

    public boolean deliver(int order)
            throws IndexOutOfBoundsException, UnsupportedOperationException {
        Order found = knownOrder(order);
        if (found.state == DELIVERED || (found.part.isMade && found.state != FINISHED)) {
            throw new UnsupportedOperationException("the order cannot be delivered");
        }
        if (freePiecesOf(found.part) < found.quantity) {
            return false;
        }
        takeForDelivery(found);
        noteOrderOnLots(found);
        found.state = DELIVERED;
        found.deliveredAt = now;
        return true;
    }

    public char stateOf(int order) throws IndexOutOfBoundsException {
        return knownOrder(order).state;
    }

    public int lotOf(int order) throws IndexOutOfBoundsException, NoSuchElementException {
        Order found = knownOrder(order);
        Lot lot = found.job.lot;
        if (lot == null) {
            throw new NoSuchElementException("the job made no lot");
        }
        return lot.number;
    }

    public int finishedAt(int order) throws IndexOutOfBoundsException, NoSuchElementException {
        Order found = knownOrder(order);
        if (found.job.finishedAt == NONE) {
            throw new NoSuchElementException("the job is not finished");
        }
        return found.job.finishedAt;
    }

    public char machineIs(int machine) throws IndexOutOfBoundsException {
        return knownMachine(machine).state;
    }

    public int wear(int machine) throws IndexOutOfBoundsException {
        return knownMachine(machine).wear;
    }

    public int waiting(int machine) throws IndexOutOfBoundsException {
        return countWaiting(knownMachine(machine));
    }

    // ---- traces and figures

    public boolean isIn(int lot, int other) throws IndexOutOfBoundsException {
        Lot inner = knownLot(lot);
        Lot outer = knownLot(other);
        return outer.inside.has(inner.number);
    }

    public int touched(int lot) throws IndexOutOfBoundsException {
        return knownLot(lot).intoOrders.size();
    }

    public int lotsIn(int order) throws IndexOutOfBoundsException {
        return knownOrder(order).inside.size();
    }

    public long deliveredCost(int order)
            throws IndexOutOfBoundsException, NoSuchElementException {
        Order found = knownOrder(order);
        if (found.state != DELIVERED) {
            throw new NoSuchElementException("the order was not delivered");
        }
        return found.deliveredCost;
    }

    public float inTimeShare() throws ArithmeticException {
        int all = 0;
        int inTime = 0;
        for (Order order : orders) {
            if (order != null && order.state == DELIVERED) {
                all++;
                inTime += order.deliveredAt <= order.due ? 1 : 0;
            }
        }
        if (all == 0) {
            throw new ArithmeticException("no order was delivered");
        }
        return (float) inTime / (float) all;
    }

    public double meanBusy() throws ArithmeticException {
        if (machineCount == 0) {
            throw new ArithmeticException("there are no machines");
        }
        long busy = 0;
        for (Machine machine : machines) {
            if (machine != null) {
                busy += machine.busyUntil(now);
            }
        }
        return (double) busy / (double) machineCount;
    }

    public boolean isSound() {
        return areLotsSound() && areJobsSound() && areCostsSound()
                && arePromisesSound() && areTracesSound();
    }

    // ---- what stands behind the face

    private static boolean isFrom(int number, int least, int most) {
        return number >= least && number <= most;
    }

    private Machine knownMachine(int number) {
        Machine found = number >= 0 && number < machines.length ? machines[number] : null;
        if (found == null) {
            throw new IndexOutOfBoundsException("there is no such machine");
        }
        return found;
    }

    private Part knownPart(int number) {
        Part found = number >= 0 && number < parts.length ? parts[number] : null;
        if (found == null) {
            throw new IndexOutOfBoundsException("there is no such part");
        }
        return found;
    }

    private Lot knownLot(int number) {
        Lot found = number >= 0 && number < lots.length ? lots[number] : null;
        if (found == null) {
            throw new IndexOutOfBoundsException("there is no such lot");
        }
        return found;
    }

    private Order knownOrder(int number) {
        Order found = number >= 0 && number < orders.length ? orders[number] : null;
        if (found == null) {
            throw new IndexOutOfBoundsException("there is no such order");
        }
        return found;
    }

    private Supplier findSupplier(int number) {
        return number >= 0 && number < suppliers.length ? suppliers[number] : null;
    }

    private Lot putLot(Part part, int quantity, long cost) {
        Lot lot = new Lot(lotCount, part, quantity, cost);
        if (lotCount < lots.length) {
            lots[lotCount] = lot;
            lotCount++;
        }
        return lot;
    }

    private boolean isBarred(Lot lot) {
        return onHold.has(lot.number) || lot.inside.meets(onHold);
    }

    private int putOnHold(Lot lot) {
        onHold.add(lot.number);
        int lost = 0;
        for (Order order : orders) {
            if (order != null && order.state == PROMISED && hasBarredPieces(order)) {
                dropPromise(order);
                lost++;
            }
        }
        return lost;
    }

    private boolean hasBarredPieces(Order order) {
        for (Lot lot : lots) {
            if (lot != null && order.piecesOf(lot) > 0 && isBarred(lot)) {
                return true;
            }
        }
        return false;
    }

    private int freePieces(Lot lot) {
        return isBarred(lot) ? 0 : lot.rest - lot.reserved;
    }

    private int freePiecesOf(Part part) {
        int free = 0;
        for (Lot lot : lots) {
            if (lot != null && lot.part == part) {
                free += freePieces(lot);
            }
        }
        return free;
    }

    private boolean reserveAll(Order order) {
        for (Component component : order.part.components) {
            if (component != null && component.isFor(order.option)
                    && !reserve(order, component)) {
                dropPromise(order);
                return false;
            }
        }
        order.state = PROMISED;
        return true;
    }

    private boolean reserve(Order order, Component component) {
        int missing = order.quantity * component.pieces;
        for (Lot lot : lots) {
            if (lot != null && lot.part == component.part) {
                int some = Math.min(missing, freePieces(lot));
                lot.reserved += some;
                order.addPieces(lot, some);
                missing -= some;
            }
        }
        return missing == 0;
    }

    private int dropPromise(Order order) {
        int all = 0;
        for (Lot lot : lots) {
            if (lot != null) {
                int some = order.piecesOf(lot);
                lot.reserved -= some;
                order.addPieces(lot, -some);
                all += some;
            }
        }
        order.state = UNTOUCHED;
        return all;
    }

    private void takeReserved(Order order) {
        for (Lot lot : lots) {
            if (lot != null) {
                int some = order.piecesOf(lot);
                lot.reserved -= some;
                order.job.cost += lot.take(some);
            }
        }
        order.job.pieces = order.quantity;
    }

    /** The machine that the job goes to, or null if no operation is left for it. */
    private Machine sendOn(Order order) {
        Operation operation = order.part.operationAt(order.job.operation);
        Machine machine = operation != null ? chooseMachine(operation) : null;
        if (machine != null) {
            order.state = WAITS;
        }
        order.job.waitsAt = machine;
        return machine;
    }

    private Machine chooseMachine(Operation operation) {
        Machine first = operation.machine;
        Machine second = operation.alternative;
        return second != null && load(second) < load(first) ? second : first;
    }

    private int load(Machine machine) {
        return countWaiting(machine) + (machine.doing != null ? 1 : 0);
    }

    private int countWaiting(Machine machine) {
        int count = 0;
        for (Order order : orders) {
            if (order != null && order.job.waitsAt == machine) {
                count++;
            }
        }
        return count;
    }

    private Order firstWaiting(Machine machine) {
        Order first = null;
        for (Order order : orders) {
            if (order != null && order.job.waitsAt == machine
                    && (first == null || order.due < first.due)) {
                first = order;
            }
        }
        return first;
    }

    private void passTime() {
        now++;
        for (Machine machine : machines) {
            if (machine != null && machine.endsAt == now) {
                endWork(machine);
            }
        }
        for (Machine machine : machines) {
            if (machine != null) {
                beginNext(machine);
            }
        }
    }

    private void beginNext(Machine machine) {
        Order order = machine.state == FREE ? firstWaiting(machine) : null;
        if (order == null) {
            return;
        }
        Operation operation = order.part.operationAt(order.job.operation);
        if (operation != null) {
            machine.begin(order, operation.time * order.job.pieces, now);
            order.state = AT_WORK;
            order.job.waitsAt = null;
        }
    }

    private void endWork(Machine machine) {
        Order order = machine.doing;
        if (order == null) {
            machine.state = FREE;
            return;
        }
        Job job = order.job;
        long cost = (long) (now - machine.begunAt) * machine.rate;
        costIn += cost;
        job.cost += cost;
        job.operation++;
        machine.end(job.pieces, now);
        if (sendOn(order) == null) {
            finish(order);
        }
    }

    private void finish(Order order) {
        Job job = order.job;
        order.state = FINISHED;
        job.finishedAt = now;
        if (job.pieces == 0) {
            costLost += job.cost;
        } else {
            job.lot = putLot(order.part, job.pieces, job.cost);
            noteSources(order, job.lot);
        }
        job.cost = 0;
    }

    private void noteSources(Order order, Lot made) {
        for (Lot lot : lots) {
            if (lot != null && order.piecesOf(lot) > 0) {
                made.inside.addWith(lot);
            }
        }
        for (Lot lot : lots) {
            if (lot != null && made.inside.has(lot.number)) {
                lot.intoLots.add(made.number);
            }
        }
    }

    private void takeForDelivery(Order order) {
        int missing = order.quantity;
        Lot own = order.job.lot;
        if (own != null) {
            missing -= deliverOf(own, missing, order);
        }
        for (Lot lot : lots) {
            if (lot != null && lot.part == order.part) {
                missing -= deliverOf(lot, missing, order);
            }
        }
    }

    private int deliverOf(Lot lot, int most, Order order) {
        int some = Math.min(most, freePieces(lot));
        if (some <= 0) {
            return 0;
        }
        order.deliveredCost += lot.take(some);
        order.delivered += some;
        order.inside.addWith(lot);
        lot.delivered += some;
        return some;
    }

    private void noteOrderOnLots(Order order) {
        for (Lot lot : lots) {
            if (lot != null && order.inside.has(lot.number)) {
                lot.intoOrders.add(order.number);
            }
        }
    }

    // ---- what isSound looks at

    private boolean areLotsSound() {
        for (Lot lot : lots) {
            if (lot != null
                    && lot.quantity != lot.rest + piecesIn(lot, false) + lot.delivered) {
                return false;
            }
        }
        return true;
    }

    /** The pieces of a lot that orders hold: reserved by promises, or taken for jobs. */
    private int piecesIn(Lot lot, boolean areReserved) {
        int all = 0;
        for (Order order : orders) {
            if (order != null && (order.state == PROMISED) == areReserved) {
                all += order.piecesOf(lot);
            }
        }
        return all;
    }

    private boolean areJobsSound() {
        int delivered = 0;
        for (Order order : orders) {
            if (order != null) {
                delivered += order.delivered;
                if (!order.isSoundAlone()) {
                    return false;
                }
            }
        }
        for (Lot lot : lots) {
            delivered -= lot != null ? lot.delivered : 0;
        }
        return delivered == 0;
    }

    private boolean areCostsSound() {
        long all = costLost;
        for (Lot lot : lots) {
            all += lot != null ? lot.cost : 0;
        }
        for (Order order : orders) {
            all += order != null ? order.job.cost + order.deliveredCost : 0;
        }
        return all == costIn;
    }

    private boolean arePromisesSound() {
        for (Lot lot : lots) {
            if (lot != null && (lot.reserved != piecesIn(lot, true)
                    || lot.reserved > lot.rest || (lot.reserved > 0 && isBarred(lot)))) {
                return false;
            }
        }
        return true;
    }

    private boolean areTracesSound() {
        for (Lot lot : lots) {
            if (lot != null && !isTraceSound(lot)) {
                return false;
            }
        }
        return true;
    }

    private boolean isTraceSound(Lot lot) {
        for (Lot other : lots) {
            if (other != null
                    && lot.intoLots.has(other.number) != other.inside.has(lot.number)) {
                return false;
            }
        }
        for (Order order : orders) {
            if (order != null
                    && lot.intoOrders.has(order.number) != order.inside.has(lot.number)) {
                return false;
            }
        }
        return true;
    }

    /** Numbers from 0 to 127 as bits, so that a trace takes no row of its own. */
    private static final class NumberSet {
        private long low;
        private long high;

        void add(int number) {
            if (number >= 0 && number < 64) {
                low |= 1L << number;
            } else if (number >= 64 && number < 128) {
                high |= 1L << (number - 64);
            }
        }

        void remove(int number) {
            if (number >= 0 && number < 64) {
                low &= ~(1L << number);
            } else if (number >= 64 && number < 128) {
                high &= ~(1L << (number - 64));
            }
        }

        boolean has(int number) {
            if (number >= 0 && number < 64) {
                return (low >>> number & 1L) != 0;
            }
            return number >= 64 && number < 128 && (high >>> (number - 64) & 1L) != 0;
        }

        boolean meets(NumberSet other) {
            return (low & other.low) != 0 || (high & other.high) != 0;
        }

        // What is in a lot never changes once it is there, so that it can be copied over.
        void addWith(Lot lot) {
            add(lot.number);
            low |= lot.inside.low;
            high |= lot.inside.high;
        }

        int size() {
            return Long.bitCount(low) + Long.bitCount(high);
        }
    }

    private static final class Machine {
        final int rate;
        final int setup;
        final int life;
        final int repair;
        char state = FREE;
        int family = NONE;
        int wear;
        int begunAt;
        int endsAt = NONE;
        int busy;
        Order doing;

        Machine(int rate, int setup, int life, int repair) {
            this.rate = rate;
            this.setup = setup;
            this.life = life;
            this.repair = repair;
        }

        void begin(Order order, int work, int time) {
            int whole = work;
            if (family != order.part.family) {
                family = order.part.family;
                whole += setup;
            }
            state = AT_WORK;
            doing = order;
            begunAt = time;
            endsAt = time + Math.max(1, whole);
        }

        void end(int pieces, int time) {
            busy += time - begunAt;
            doing = null;
            state = FREE;
            wear += pieces;
            if (wear >= life) {
                wear = 0;
                state = BROKEN;
                endsAt = time + repair;
            }
        }

        int busyUntil(int time) {
            return doing != null ? busy + time - begunAt : busy;
        }
    }

    private static final class Component {
        final Part part;
        final int pieces;
        final int option;

        Component(Part part, int pieces, int option) {
            this.part = part;
            this.pieces = pieces;
            this.option = option;
        }

        boolean isFor(int wanted) {
            return option == NONE || option == wanted;
        }
    }

    private static final class Operation {
        final Machine machine;
        final Machine alternative;
        final int time;

        Operation(Machine machine, Machine alternative, int time) {
            this.machine = machine;
            this.alternative = alternative;
            this.time = time;
        }
    }

    private static final class Part {
        final int number;
        final boolean isMade;
        final int family;
        final Component[] components = new Component[MOST_COMPONENTS];
        final Operation[] operations = new Operation[MOST_OPERATIONS];
        final Chart chart = new Chart();
        int componentCount;
        int operationCount;

        Part(int number, boolean isMade, int family) {
            this.number = number;
            this.isMade = isMade;
            this.family = family;
        }

        boolean hasRoomForComponent() {
            return componentCount < components.length;
        }

        int putComponent(Component component) {
            if (hasRoomForComponent()) {
                components[componentCount] = component;
                componentCount++;
            }
            return componentCount;
        }

        boolean hasRoomForOperation() {
            return operationCount < operations.length;
        }

        int putOperation(Operation operation) {
            if (hasRoomForOperation()) {
                operations[operationCount] = operation;
                operationCount++;
            }
            return operationCount;
        }

        Operation operationAt(int number) {
            return number >= 0 && number < operations.length ? operations[number] : null;
        }
    }

    private static final class Chart {
        int centre = 100;
        int width = 10;
        int side;
        int row;
        int measured;

        void begin(int newCentre, int newWidth) {
            centre = newCentre;
            width = newWidth;
            row = 0;
        }

        boolean alarms(int value) {
            int newSide = Integer.compare(value, centre);
            measured++;
            row = newSide == side ? row + 1 : 1;
            side = newSide;
            return Math.abs(value - centre) > width || (side != 0 && row >= 4);
        }
    }

    private static final class Supplier {
        char rule = NORMAL;
        // The last lots by this rule as bits, 1 for a refused one, the newest lowest.
        private int refusals;
        private int seen;

        boolean refuses(int bad) {
            boolean isRefused = bad > mostBad();
            refusals = refusals << 1 & 31 | (isRefused ? 1 : 0);
            seen++;
            char next = nextRule(isRefused);
            if (next != rule) {
                rule = next;
                refusals = 0;
                seen = 0;
            }
            return isRefused;
        }

        private int mostBad() {
            if (rule == TIGHT) {
                return 1;
            }
            return rule == REDUCED ? 4 : 2;
        }

        private char nextRule(boolean isRefused) {
            if (rule == TIGHT) {
                return areAccepted(3) ? NORMAL : TIGHT;
            }
            if (rule == REDUCED) {
                return isRefused ? NORMAL : REDUCED;
            }
            if (Integer.bitCount(refusals) >= 2) {
                return TIGHT;
            }
            return areAccepted(4) ? REDUCED : NORMAL;
        }

        private boolean areAccepted(int last) {
            return seen >= last && (refusals & (1 << last) - 1) == 0;
        }
    }

    private static final class Lot {
        final int number;
        final Part part;
        final int quantity;
        final NumberSet inside = new NumberSet();
        final NumberSet intoLots = new NumberSet();
        final NumberSet intoOrders = new NumberSet();
        int rest;
        int reserved;
        int delivered;
        long cost;

        Lot(int number, Part part, int quantity, long cost) {
            this.number = number;
            this.part = part;
            this.quantity = quantity;
            this.cost = cost;
            rest = quantity;
        }

        long take(int pieces) {
            if (rest <= 0 || pieces <= 0) {
                return 0;
            }
            long share = cost * pieces / rest;
            rest -= pieces;
            cost -= share;
            return share;
        }
    }

    private static final class Order {
        final int number;
        final Part part;
        final int quantity;
        final int option;
        final int due;
        final Job job = new Job();
        final NumberSet inside = new NumberSet();
        // Of each lot: reserved while the order is promised, taken once it is released.
        private final int[] pieces = new int[MOST_LOTS];
        char state = UNTOUCHED;
        int deliveredAt;
        int delivered;
        long deliveredCost;

        Order(int number, Part part, int quantity, int option, int due) {
            this.number = number;
            this.part = part;
            this.quantity = quantity;
            this.option = option;
            this.due = due;
        }

        int piecesOf(Lot lot) {
            int number = lot.number;
            return number >= 0 && number < pieces.length ? pieces[number] : 0;
        }

        void addPieces(Lot lot, int more) {
            int number = lot.number;
            if (number >= 0 && number < pieces.length) {
                pieces[number] += more;
            }
        }

        boolean isInWork() {
            return state == WAITS || state == AT_WORK;
        }

        boolean isSoundAlone() {
            boolean isReleased = isInWork() || job.finishedAt != NONE;
            boolean isWhole = job.pieces + job.scrapped == (isReleased ? quantity : 0);
            boolean isMade = job.lot == null || job.lot.quantity == job.pieces;
            return isWhole && isMade && delivered == (state == DELIVERED ? quantity : 0);
        }
    }

    private static final class Job {
        int pieces;
        int scrapped;
        int operation;
        int finishedAt = NONE;
        long cost;
        Machine waitsAt;
        Lot lot;
    }
}
