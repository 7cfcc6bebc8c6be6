/** The edges that promises 1 to 5 and the terms of parts and machines name. */
public final class PartsAndMachinesEdgesTest {
    private static final Check CHECK = new Check("PartsAndMachinesEdgesTest");

    public static void main(String[] args) {
        promise1WithoutParts();
        promise1WithoutMachines();
        promise1WithoutLotsAndOrders();
        promise1AtTheTime0();
        promise2Rate();
        promise2Setup();
        promise2SetUpForNoFamily();
        promise2Life();
        promise2Repair();
        promise2NumbersOfMachines();
        promise3Family();
        promise3FamiliesDiffer();
        promise3NumbersOfParts();
        promise3IsMade();
        promise4NoSuchPart();
        promise4BoughtPart();
        promise4LowerNumber();
        promise4Pieces();
        promise4PiecesAreNeeded();
        promise4Option();
        promise4OptionIsFor();
        promise4FourComponents();
        promise4FromNowOn();
        promise5NoSuchPart();
        promise5NoSuchMachine();
        promise5NoSuchAlternative();
        promise5BoughtPart();
        promise5Time();
        promise5TimeForEachPiece();
        promise5ThreeOperations();
        promise5JobsThatComeToIt();
        CHECK.close();
    }

    private static void promise1WithoutParts() {
        CHECK.of("Promise 1: Creates a factory without parts");
        Foundrymark x = new Foundrymark();
        CHECK.none(Check.INDEX, n -> x.setChart(n, 100, 10));
        CHECK.none(Check.INDEX, n -> x.order(n, 1, 0, 0));
        CHECK.none(Check.INDEX, n -> x.receive(n, 1, 1, 0, 0));
        CHECK.none(Check.INDEX, n -> x.addComponent(n, n, 1, 0));
        x.addMachine(1, 0, 5, 1);
        CHECK.none(Check.INDEX, n -> x.addOperation(n, 0, -1, 1));
        CHECK.same("the first part", x.addPart(true, 0), 0);
    }

    private static void promise1WithoutMachines() {
        CHECK.of("Promise 1: Creates a factory without machines");
        Foundrymark x = new Foundrymark();
        x.addPart(true, 0);
        CHECK.none(Check.INDEX, n -> x.addOperation(0, n, -1, 1));
        CHECK.none(Check.INDEX, x::machineIs);
        CHECK.none(Check.INDEX, x::wear);
        CHECK.none(Check.INDEX, x::waiting);
        CHECK.fails("meanBusy()", Check.ARITHMETIC, x::meanBusy);
        CHECK.same("the first machine", x.addMachine(1, 0, 5, 1), 0);
    }

    private static void promise1WithoutLotsAndOrders() {
        CHECK.of("Promise 1: a new object has no lots and orders yet");
        Foundrymark x = new Foundrymark();
        CHECK.same("lots()", x.lots(), 0);
        CHECK.none(Check.INDEX, n -> x.hold(n, true));
        CHECK.none(Check.INDEX, n -> x.measure(n, 100));
        CHECK.none(Check.INDEX, n -> x.isIn(n, n));
        CHECK.none(Check.INDEX, x::isHeld);
        CHECK.none(Check.INDEX, x::partOf);
        CHECK.none(Check.INDEX, x::rest);
        CHECK.none(Check.INDEX, x::reserved);
        CHECK.none(Check.INDEX, x::costOf);
        CHECK.none(Check.INDEX, x::touched);
        CHECK.none(Check.INDEX, x::promise);
        CHECK.none(Check.INDEX, x::withdraw);
        CHECK.none(Check.INDEX, x::release);
        CHECK.none(Check.INDEX, n -> x.scrap(n, 1));
        CHECK.none(Check.INDEX, x::deliver);
        CHECK.none(Check.INDEX, x::stateOf);
        CHECK.none(Check.INDEX, x::lotOf);
        CHECK.none(Check.INDEX, x::finishedAt);
        CHECK.none(Check.INDEX, x::lotsIn);
        CHECK.none(Check.INDEX, x::deliveredCost);
        CHECK.fails("inTimeShare()", Check.ARITHMETIC, x::inTimeShare);
        CHECK.same("isSound()", x.isSound(), true);
    }

    private static void promise1AtTheTime0() {
        CHECK.of("Promise 1: at the time 0");
        Foundrymark x = Workshop.chain();
        x.receive(0, 1, 1, 0, 0);
        Workshop.job(x, 1, 1, 0);
        CHECK.same("finishedAt(0)", x.finishedAt(0), 0);
        CHECK.same("advance(1)", x.advance(1), 1);
    }

    private static void promise2Rate() {
        CHECK.of("Promise 2: rate: its rate, 0 to 20");
        CHECK.range(0, 20, Check.ARGUMENT, n -> new Foundrymark().addMachine(n, 0, 5, 1));
        for (int rate : new int[] {0, 1, 20}) {
            Foundrymark x = Workshop.machine(rate, 0, 500, 1);
            Workshop.job(x, 0, 3, 0);
            x.advance(3);
            CHECK.same("3 of time at the rate " + rate, x.costOf(0), 3 * rate);
        }
    }

    private static void promise2Setup() {
        CHECK.of("Promise 2: setup: its setup, 0 to 50");
        CHECK.range(0, 50, Check.ARGUMENT, n -> new Foundrymark().addMachine(0, n, 5, 1));
        for (int setup : new int[] {0, 1, 50}) {
            Foundrymark x = Workshop.machine(1, setup, 500, 1);
            Workshop.job(x, 0, 1, 0);
            x.advance(60);
            CHECK.same("1 of time and the setup " + setup, x.finishedAt(0), setup + 1);
        }
    }

    private static void promise2SetUpForNoFamily() {
        CHECK.of("Terms, Machines: A machine is set up for no family at first");
        for (int family = 0; family < 4; family++) {
            Foundrymark x = new Foundrymark();
            x.addMachine(1, 7, 500, 1);
            x.addPart(true, family);
            x.addOperation(0, 0, -1, 1);
            Workshop.job(x, 0, 1, 0);
            x.advance(20);
            CHECK.same("setup for the family " + family, x.finishedAt(0), 8);
        }
    }

    private static void promise2Life() {
        CHECK.of("Promise 2: life: its life, 5 to 500");
        CHECK.range(5, 500, Check.ARGUMENT, n -> new Foundrymark().addMachine(0, 0, n, 1));
        for (int life : new int[] {5, 6, 500}) {
            Foundrymark x = Workshop.machine(1, 0, life, 1);
            for (int left = life - 1; left > 0; left -= 100) {
                Workshop.job(x, 0, Math.min(100, left), 0);
            }
            Workshop.pass(x, life - 1);
            CHECK.same("wear of life - 1", x.wear(0), life - 1);
            CHECK.same("not broken", x.machineIs(0), '-');
            Workshop.job(x, 0, 1, 0);
            x.advance(1);
            CHECK.same("wear of life", x.wear(0), 0);
            CHECK.same("broken", x.machineIs(0), 'b');
        }
    }

    private static void promise2Repair() {
        CHECK.of("Promise 2: repair: its repair, 1 to 99");
        CHECK.range(1, 99, Check.ARGUMENT, n -> new Foundrymark().addMachine(0, 0, 5, n));
        for (int repair : new int[] {1, 2, 99}) {
            Foundrymark x = Workshop.machine(1, 0, 5, repair);
            Workshop.job(x, 0, 5, 0);
            x.advance(5);
            for (int i = 0; i < repair; i++) {
                CHECK.same("repaired since " + i, x.machineIs(0), 'b');
                x.advance(1);
            }
            CHECK.same("repaired for " + repair, x.machineIs(0), '-');
        }
    }

    private static void promise2NumbersOfMachines() {
        CHECK.of("Promise 2: Returns the number of the machine; if there are 5 machines");
        Foundrymark x = new Foundrymark();
        for (int i = 0; i < 5; i++) {
            CHECK.same("addMachine", x.addMachine(i, 0, 5, 1), i);
            CHECK.same("machineIs", x.machineIs(i), '-');
            int next = i + 1;
            CHECK.fails("the next one", Check.INDEX, () -> x.machineIs(next));
        }
        CHECK.fails("6th", Check.STATE, () -> x.addMachine(0, 0, 5, 1));
        CHECK.fails("6th again", Check.STATE, () -> x.addMachine(20, 50, 500, 99));
        CHECK.fails("6th, out of range", Check.ARGUMENT, () -> x.addMachine(0, 0, 5, 100));
        CHECK.fails("it is not there", Check.INDEX, () -> x.wear(5));
    }

    private static void promise3Family() {
        CHECK.of("Promise 3: family: its family, 0 to 3");
        CHECK.range(0, 3, Check.ARGUMENT, n -> new Foundrymark().addPart(true, n));
        CHECK.range(0, 3, Check.ARGUMENT, n -> new Foundrymark().addPart(false, n));
    }

    private static void promise3FamiliesDiffer() {
        CHECK.of("Terms, Parts: each of a family from 0 to 3");
        for (int first = 0; first < 4; first++) {
            for (int second = 0; second < 4; second++) {
                Foundrymark x = new Foundrymark();
                x.addMachine(1, 5, 500, 1);
                x.addPart(true, first);
                x.addPart(true, second);
                x.addOperation(0, 0, -1, 1);
                x.addOperation(1, 0, -1, 1);
                Workshop.job(x, 0, 1, 0);
                Workshop.job(x, 1, 1, 0);
                x.advance(20);
                CHECK.same("family " + second + " behind " + first, x.finishedAt(1),
                        first == second ? 7 : 12);
            }
        }
    }

    private static void promise3NumbersOfParts() {
        CHECK.of("Promise 3: Returns the number of the part; if there are 12 parts");
        Foundrymark x = new Foundrymark();
        for (int i = 0; i < 12; i++) {
            CHECK.same("addPart", x.addPart(i > 5, i % 4), i);
            CHECK.same("setChart", x.setChart(i, 100, 10), 0);
            int next = i + 1;
            CHECK.fails("the next one", Check.INDEX, () -> x.setChart(next, 100, 10));
        }
        CHECK.fails("13th", Check.STATE, () -> x.addPart(true, 0));
        CHECK.fails("13th again", Check.STATE, () -> x.addPart(false, 3));
        CHECK.fails("13th, of no family", Check.ARGUMENT, () -> x.addPart(true, -1));
        CHECK.fails("it is not there", Check.INDEX, () -> x.order(12, 1, 0, 0));
    }

    private static void promise3IsMade() {
        CHECK.of("Promise 3: isMade: whether it is made, and not bought");
        Foundrymark x = new Foundrymark();
        x.addPart(false, 0);
        x.addPart(true, 0);
        CHECK.works("a bought one is received", () -> x.receive(0, 1, 1, 0, 0));
        CHECK.fails("a made one", Check.UNSUPPORTED, () -> x.receive(1, 1, 1, 0, 0));
        CHECK.works("a made one has components", () -> x.addComponent(1, 0, 1, 0));
        CHECK.fails("a bought one", Check.UNSUPPORTED, () -> x.addComponent(0, 0, 1, 0));
    }

    private static void promise4NoSuchPart() {
        CHECK.of("Promise 4: if there is no such part, for either");
        Foundrymark x = new Foundrymark();
        x.addPart(false, 0);
        x.addPart(false, 0);
        x.addPart(true, 0);
        CHECK.outside(0, 2, Check.INDEX, n -> x.addComponent(n, 0, 1, -1));
        CHECK.outside(0, 2, Check.INDEX, n -> x.addComponent(2, n, 1, -1));
        CHECK.outside(0, 11, Check.INDEX, n -> Workshop.fullOfParts().addComponent(n, 0, 1, -1));
        CHECK.outside(0, 11, Check.INDEX, n -> Workshop.fullOfParts().addComponent(10, n, 1, -1));
        CHECK.works("the least", () -> x.addComponent(2, 0, 1, -1));
        CHECK.works("the most", () -> x.addComponent(2, 1, 1, -1));
        CHECK.works("the 12th part, the 11th component", Workshop::partTwelve);
    }

    private static void promise4BoughtPart() {
        CHECK.of("Promise 4: if the part is bought");
        Foundrymark x = new Foundrymark();
        x.addPart(true, 0);
        x.addPart(false, 0);
        CHECK.fails("bought", Check.UNSUPPORTED, () -> x.addComponent(1, 0, 1, -1));
        CHECK.fails("bought, out of range", Check.UNSUPPORTED, () -> x.addComponent(1, 0, 0, 3));
        CHECK.fails("no such component", Check.INDEX, () -> x.addComponent(1, 2, 1, -1));
        x.addPart(true, 0);
        CHECK.same("made, of a made one", x.addComponent(2, 0, 1, -1), 1);
        CHECK.same("made, of a bought one", x.addComponent(2, 1, 1, -1), 2);
    }

    private static void promise4LowerNumber() {
        CHECK.of("Promise 4: or the component has no lower number");
        Foundrymark x = new Foundrymark();
        for (int i = 0; i < 4; i++) {
            x.addPart(i > 0, 0);
        }
        CHECK.fails("itself", Check.UNSUPPORTED, () -> x.addComponent(2, 2, 1, -1));
        CHECK.fails("the next one", Check.UNSUPPORTED, () -> x.addComponent(2, 3, 1, -1));
        CHECK.fails("out of range", Check.UNSUPPORTED, () -> x.addComponent(2, 2, 10, -2));
        CHECK.same("the one before", x.addComponent(2, 1, 1, -1), 1);
        CHECK.same("the first one", x.addComponent(2, 0, 1, -1), 2);
    }

    private static void promise4Pieces() {
        CHECK.of("Promise 4: pieces: the number of pieces, 1 to 9");
        CHECK.range(1, 9, Check.ARGUMENT, n -> Workshop.chain().addComponent(2, 0, n, -1));
    }

    private static void promise4PiecesAreNeeded() {
        CHECK.of("Terms, Orders: as many pieces as the quantity times its number");
        Foundrymark x = Workshop.bought();
        x.addPart(true, 0);
        for (int i = 0; i < 4; i++) {
            x.addComponent(1, 0, 9, i == 0 ? -1 : 0);
        }
        for (int i = 0; i < 7; i++) {
            x.receive(0, 500, 1, 0, 0);
        }
        x.order(1, 100, 0, 0);
        x.receive(0, 99, 1, 0, 0);
        CHECK.same("3600 of 3599", x.promise(0), false);
        x.receive(0, 1, 1, 0, 0);
        CHECK.same("3600 of 3600", x.promise(0), true);
        CHECK.same("the most that an order needs", x.withdraw(0), 3600);
        x.order(1, 1, 1, 0);
        x.promise(1);
        CHECK.same("1 times 9", x.withdraw(1), 9);
    }

    private static void promise4Option() {
        CHECK.of("Promise 4: option: the option, 0 to 2, or -1 for any");
        CHECK.range(-1, 2, Check.ARGUMENT, n -> Workshop.chain().addComponent(2, 0, 1, n));
    }

    private static void promise4OptionIsFor() {
        CHECK.of("Terms, Orders: for each component of its option or any");
        for (int option = -1; option < 3; option++) {
            Foundrymark x = Workshop.bought();
            x.addPart(true, 0);
            x.addComponent(1, 0, 1, option);
            x.receive(0, 10, 1, 0, 0);
            for (int wanted = 0; wanted < 3; wanted++) {
                x.order(1, 1, wanted, 0);
                x.promise(wanted);
                CHECK.same("option " + option + " for " + wanted, x.withdraw(wanted),
                        option == -1 || option == wanted ? 1 : 0);
            }
        }
    }

    private static void promise4FourComponents() {
        CHECK.of("Promise 4: Returns how many components the part has; if it has 4");
        Foundrymark x = Workshop.chain();
        CHECK.same("2nd", x.addComponent(1, 0, 1, 0), 2);
        CHECK.same("3rd", x.addComponent(1, 0, 1, 1), 3);
        CHECK.fails("refused", Check.ARGUMENT, () -> x.addComponent(1, 0, 0, 1));
        CHECK.same("4th", x.addComponent(1, 0, 1, 2), 4);
        CHECK.fails("5th", Check.STATE, () -> x.addComponent(1, 0, 1, -1));
        CHECK.fails("5th again", Check.STATE, () -> x.addComponent(1, 0, 9, 2));
        CHECK.fails("5th, out of range", Check.ARGUMENT, () -> x.addComponent(1, 0, 1, 3));
        CHECK.same("another part's 2nd", x.addComponent(2, 0, 1, 0), 2);
        x.receive(0, 9, 1, 0, 0);
        x.order(1, 1, 2, 0);
        x.promise(0);
        CHECK.same("the 5th is not needed", x.withdraw(0), 2);
    }

    private static void promise4FromNowOn() {
        CHECK.of("Promise 4: for orders that are promised from now on");
        Foundrymark x = Workshop.shop();
        x.order(1, 5, 0, 0);
        x.order(1, 5, 0, 0);
        x.promise(0);
        x.addComponent(1, 0, 3, -1);
        CHECK.same("promised before", x.reserved(0), 5);
        x.release(0);
        CHECK.same("it takes what it reserved", x.rest(0), 95);
        x.release(1);
        CHECK.same("ordered before, promised now", x.rest(0), 75);
    }

    private static void promise5NoSuchPart() {
        CHECK.of("Promise 5: if there is no such part");
        Foundrymark x = Workshop.shop();
        CHECK.outside(0, 1, Check.INDEX, n -> x.addOperation(n, 0, -1, 1));
        CHECK.outside(0, 11, Check.INDEX, n -> Workshop.fullOfParts().addOperation(n, 0, -1, 1));
        CHECK.works("the most", () -> x.addOperation(1, 0, -1, 1));
    }

    private static void promise5NoSuchMachine() {
        CHECK.of("Promise 5: if there is no such machine");
        CHECK.range(0, 0, Check.INDEX, n -> Workshop.shop().addOperation(1, n, -1, 1));
        CHECK.range(0, 4, Check.INDEX, n -> Workshop.fullOfParts().addOperation(10, n, -1, 1));
    }

    private static void promise5NoSuchAlternative() {
        CHECK.of("Promise 5: alternative: the number of the alternative one, or -1; for either");
        CHECK.range(-1, 0, Check.INDEX, n -> Workshop.shop().addOperation(1, 0, n, 1));
        CHECK.range(-1, 4, Check.INDEX, n -> Workshop.fullOfParts().addOperation(10, 0, n, 1));
        Foundrymark x = Workshop.shop();
        CHECK.same("the machine itself", x.addOperation(1, 0, 0, 1), 2);
    }

    private static void promise5BoughtPart() {
        CHECK.of("Promise 5: if the part is bought");
        Foundrymark x = Workshop.shop();
        CHECK.fails("bought", Check.UNSUPPORTED, () -> x.addOperation(0, 0, -1, 1));
        CHECK.fails("bought, out of range", Check.UNSUPPORTED, () -> x.addOperation(0, 0, -1, 0));
        CHECK.fails("bought, no machine", Check.INDEX, () -> x.addOperation(0, 1, -1, 1));
    }

    private static void promise5Time() {
        CHECK.of("Promise 5: time: the time for each piece, 1 to 20");
        CHECK.range(1, 20, Check.ARGUMENT, n -> Workshop.shop().addOperation(1, 0, -1, n));
    }

    private static void promise5TimeForEachPiece() {
        CHECK.of("Terms, Jobs: the time for each piece times the pieces");
        for (int time : new int[] {1, 20}) {
            for (int pieces : new int[] {1, 100}) {
                Foundrymark x = new Foundrymark();
                x.addMachine(0, 0, 500, 1);
                x.addPart(true, 0);
                x.addOperation(0, 0, -1, time);
                Workshop.job(x, 0, pieces, 0);
                Workshop.pass(x, time * pieces - 1);
                CHECK.same(pieces + " pieces of " + time + ", before", x.stateOf(0), 'o');
                x.advance(1);
                CHECK.same(pieces + " pieces of " + time, x.finishedAt(0), time * pieces);
            }
        }
    }

    private static void promise5ThreeOperations() {
        CHECK.of("Promise 5: Returns how many operations the part has; if it has 3");
        Foundrymark x = Workshop.shop();
        CHECK.same("2nd", x.addOperation(1, 0, -1, 3), 2);
        CHECK.fails("refused", Check.ARGUMENT, () -> x.addOperation(1, 0, -1, 21));
        CHECK.same("3rd", x.addOperation(1, 0, -1, 20), 3);
        CHECK.fails("4th", Check.STATE, () -> x.addOperation(1, 0, -1, 1));
        CHECK.fails("4th again", Check.STATE, () -> x.addOperation(1, 0, 0, 20));
        CHECK.fails("4th, out of range", Check.ARGUMENT, () -> x.addOperation(1, 0, -1, 0));
        CHECK.fails("4th, no machine", Check.INDEX, () -> x.addOperation(1, 1, -1, 1));
        x.addPart(true, 0);
        CHECK.same("another part's 1st", x.addOperation(2, 0, -1, 1), 1);
        Workshop.job(x, 1, 2, 0);
        x.advance(100);
        CHECK.same("all three are done, and no more", x.finishedAt(0), 2 * 2 + 2 * 3 + 2 * 20);
        CHECK.same("wear", x.wear(0), 6);
    }

    private static void promise5JobsThatComeToIt() {
        CHECK.of("Promise 5: Adds an operation to a part, for jobs that come to it");
        Foundrymark x = Workshop.shop();
        Workshop.job(x, 1, 1, 0);
        Workshop.job(x, 1, 1, 0);
        x.advance(2);
        x.addOperation(1, 0, -1, 7);
        x.advance(2);
        CHECK.same("what was finished stays so", x.finishedAt(0), 2);
        CHECK.same("what was not comes to it", x.stateOf(1), 'o');
        x.advance(7);
        CHECK.same("finishedAt(1)", x.finishedAt(1), 11);
    }
}
