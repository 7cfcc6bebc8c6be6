import java.lang.reflect.Array;
import java.lang.reflect.Field;
import java.util.NoSuchElementException;

/** Promises 30 to 36: traces back and forward, costs, shares, and isSound. */
public final class TracesAndFiguresTest {
    private static final Class<IndexOutOfBoundsException> INDEX = IndexOutOfBoundsException.class;
    private static final Check CHECK = new Check("TracesAndFiguresTest");

    public static void main(String[] args) throws ReflectiveOperationException {
        lotsInLots();
        lotsInOrders();
        deliveredCosts();
        sharesInTime();
        busyMachines();
        soundAllAlong();
        unsound();
        CHECK.close();
    }

    /**
     * Lots 0 and 1 are bought, 2 is made of both, 3 of lot 2, 4 of lot 1 alone; orders 0 to 2
     * made 2 to 4 in this row, and order 3 is one of the bought part.
     */
    private static Foundrymark traced() {
        Foundrymark x = new Foundrymark();
        x.addPart(false, 0);
        x.addPart(true, 0);
        x.addPart(true, 0);
        x.addComponent(1, 0, 1, -1);
        x.addComponent(2, 1, 1, -1);
        x.receive(0, 5, 2, 0, 0);
        x.receive(0, 9, 3, 0, 0);
        x.order(1, 8, 0, 0);
        x.order(2, 3, 0, 0);
        x.order(1, 4, 0, 0);
        x.order(0, 2, 0, 0);
        x.release(0);
        x.release(1);
        x.release(2);
        return x;
    }

    private static void lotsInLots() {
        Foundrymark x = traced();
        String[] due = {"..11.", "..111", "...1.", ".....", "....."};
        for (int lot = 0; lot < 5; lot++) {
            StringBuilder got = new StringBuilder();
            for (int other = 0; other < 5; other++) {
                got.append(x.isIn(lot, other) ? '1' : '.');
            }
            CHECK.same("lot " + lot + " in others", got.toString(), due[lot]);
        }
        CHECK.fails("isIn(5, 0)", INDEX, () -> x.isIn(5, 0));
        CHECK.fails("isIn(0, 5)", INDEX, () -> x.isIn(0, 5));
        CHECK.fails("isIn(-1, 0)", INDEX, () -> x.isIn(-1, 0));
        CHECK.fails("isIn(0, -1)", INDEX, () -> x.isIn(0, -1));
    }

    private static void told(Foundrymark x, String orders, String lots) {
        StringBuilder got = new StringBuilder();
        for (int lot = 0; lot < x.lots(); lot++) {
            got.append(x.touched(lot));
        }
        CHECK.same("touched", got.toString(), orders);
        got.setLength(0);
        for (int order = 0; order < 4; order++) {
            got.append(x.lotsIn(order));
        }
        CHECK.same("lotsIn", got.toString(), lots);
    }

    private static void lotsInOrders() {
        Foundrymark x = traced();
        told(x, "00000", "0000");
        x.deliver(1);
        told(x, "11110", "0400");
        x.deliver(3);
        told(x, "12110", "0401");
        x.deliver(2);
        told(x, "13111", "0421");
        CHECK.same("deliver(0), too few", x.deliver(0), false);
        told(x, "13111", "0421");
        CHECK.fails("touched(5)", INDEX, () -> x.touched(5));
        CHECK.fails("touched(-1)", INDEX, () -> x.touched(-1));
        CHECK.fails("lotsIn(4)", INDEX, () -> x.lotsIn(4));
        CHECK.fails("lotsIn(-1)", INDEX, () -> x.lotsIn(-1));
    }

    private static void deliveredCosts() {
        Foundrymark x = traced();
        Class<NoSuchElementException> none = NoSuchElementException.class;
        CHECK.fails("deliveredCost(4)", INDEX, () -> x.deliveredCost(4));
        CHECK.fails("deliveredCost(-1)", INDEX, () -> x.deliveredCost(-1));
        CHECK.fails("finished alone", none, () -> x.deliveredCost(1));
        CHECK.same("lot 2 cost 5 * 2 + 3 * 3, its rest", x.costOf(2), 12);
        x.deliver(1);
        CHECK.same("deliveredCost(1)", x.deliveredCost(1), 7);
        x.deliver(2);
        CHECK.same("deliveredCost(2)", x.deliveredCost(2), 12);
        x.deliver(3);
        CHECK.same("deliveredCost(3)", x.deliveredCost(3), 6);
        CHECK.fails("not delivered", none, () -> x.deliveredCost(0));
    }

    private static void sharesInTime() {
        Foundrymark x = new Foundrymark();
        x.addPart(false, 0);
        x.receive(0, 100, 1, 0, 0);
        x.order(0, 1, 0, 5);
        x.order(0, 1, 0, 5);
        x.order(0, 1, 0, 6);
        x.order(0, 1, 0, 9);
        CHECK.fails("none was delivered", ArithmeticException.class, x::inTimeShare);
        x.advance(5);
        x.deliver(0);
        CHECK.same("at its due time", x.inTimeShare(), 1.0f);
        x.advance(1);
        x.deliver(1);
        CHECK.same("one late", x.inTimeShare(), 0.5f);
        x.deliver(2);
        CHECK.same("2 of 3", x.inTimeShare(), 2.0f / 3.0f);
    }

    private static void busyMachines() {
        Foundrymark x = new Foundrymark();
        CHECK.fails("no machines", ArithmeticException.class, x::meanBusy);
        x.addMachine(1, 3, 500, 1);
        CHECK.same("none was busy", x.meanBusy(), 0.0);
        x.addMachine(1, 0, 500, 1);
        x.addMachine(1, 0, 500, 1);
        x.addPart(true, 0);
        x.addOperation(0, 0, -1, 2);
        x.order(0, 2, 0, 0);
        x.advance(10);
        x.release(0);
        x.advance(4);
        CHECK.same("up to now", x.meanBusy(), 4.0 / 3.0);
        x.advance(50);
        CHECK.same("in all", x.meanBusy(), 7.0 / 3.0);
    }

    private static void soundAllAlong() {
        Foundrymark x = traced();
        x.addMachine(7, 3, 5, 1);
        x.addPart(true, 2);
        x.addComponent(3, 1, 1, -1);
        x.addOperation(3, 0, -1, 2);
        x.order(3, 3, 0, 0);
        CHECK.same("before", x.isSound(), true);
        x.promise(4);
        CHECK.same("promised", x.isSound(), true);
        x.hold(1, true);
        CHECK.same("lost", x.isSound(), true);
        x.hold(1, false);
        x.release(4);
        x.scrap(4, 1);
        for (int i = 0; i < 12; i++) {
            x.advance(1);
            CHECK.same("in work", x.isSound(), true);
        }
        x.deliver(1);
        x.order(3, 1, 0, 0);
        x.release(5);
        x.scrap(5, 1);
        x.advance(10);
        CHECK.same("lost cost", x.isSound(), true);
    }

    private static void unsound() throws ReflectiveOperationException {
        for (String field : new String[] {"rest", "reserved", "cost", "delivered"}) {
            Foundrymark x = traced();
            Object lot = Array.get(read(x, "lots"), 2);
            Field told = open(lot, field);
            told.set(lot, told.getType() == long.class
                    ? (Object) (told.getLong(lot) + 1) : (Object) (told.getInt(lot) + 1));
            CHECK.same("isSound() with another " + field, x.isSound(), false);
        }
        for (String field : new String[] {"inside", "intoLots", "intoOrders"}) {
            Foundrymark x = traced();
            x.deliver(1);
            Object lot = Array.get(read(x, "lots"), 2);
            Object bits = read(lot, field);
            open(bits, "low").setLong(bits, 0);
            CHECK.same("isSound() without " + field, x.isSound(), false);
        }
        for (String field : new String[] {"pieces", "scrapped", "cost"}) {
            Foundrymark x = traced();
            Object job = read(Array.get(read(x, "orders"), 0), "job");
            Field told = open(job, field);
            told.set(job, told.getType() == long.class ? (Object) 77L : (Object) 77);
            CHECK.same("isSound() with a job of another " + field, x.isSound(), false);
        }
        for (int order = 0; order < 4; order++) {
            Foundrymark x = traced();
            Object told = Array.get(read(x, "orders"), order);
            open(told, "delivered").setInt(told, 1);
            CHECK.same("isSound() with other deliveries", x.isSound(), false);
        }
        Foundrymark x = traced();
        x.order(2, 1, 0, 0);
        x.promise(4);
        Object onHold = read(x, "onHold");
        open(onHold, "low").setLong(onHold, 1);
        CHECK.same("isSound() with a held reserved lot", x.isSound(), false);
    }

    private static Field open(Object owner, String name) throws ReflectiveOperationException {
        Field field = owner.getClass().getDeclaredField(name);
        field.setAccessible(true);
        return field;
    }

    private static Object read(Object owner, String name) throws ReflectiveOperationException {
        return open(owner, name).get(owner);
    }
}
