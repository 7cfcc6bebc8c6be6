/** The edges that promises 22 and 27 to 29 and the terms of machines and jobs name. */
public final class JobsEdgesTest {
    private static final Check CHECK = new Check("JobsEdgesTest");

    public static void main(String[] args) {
        timeEdges();
        machineEdges();
        alternativeEdges();
        queueEdges();
        setupEdges();
        wearEdges();
        orderOfEvents();
        CHECK.close();
    }

    /** So many machines at the rate 1, without setups, that break after 500 pieces. */
    private static Foundrymark machines(int count) {
        Foundrymark x = new Foundrymark();
        for (int i = 0; i < count; i++) {
            x.addMachine(1, 0, 500, 1);
        }
        return x;
    }

    /** A made part of the family 0 with one operation. */
    private static int part(Foundrymark x, int machine, int alternative, int time) {
        int part = x.addPart(true, 0);
        x.addOperation(part, machine, alternative, time);
        return part;
    }

    // ---- promise 22

    private static void timeEdges() {
        promise22By();
        promise22TheTime();
        promise22NotLaterThan5000();
        promise22InOneGoOrInMany();
    }

    private static void promise22By() {
        CHECK.of("Promise 22: by: by how much, 1 to 500");
        CHECK.range(1, 500, Check.ARGUMENT, n -> new Foundrymark().advance(n));
        Foundrymark x = Workshop.late();
        CHECK.fails("out of range, and later than 5000", Check.ARGUMENT, () -> x.advance(501));
        CHECK.fails("far out of range", Check.ARGUMENT, () -> x.advance(Integer.MAX_VALUE));
        CHECK.fails("not at all", Check.ARGUMENT, () -> x.advance(0));
        CHECK.fails("back", Check.ARGUMENT, () -> x.advance(-1));
    }

    private static void promise22TheTime() {
        CHECK.of("Promise 22: Returns the time");
        Foundrymark x = new Foundrymark();
        CHECK.same("1", x.advance(1), 1);
        CHECK.same("501", x.advance(500), 501);
        CHECK.fails("refused", Check.ARGUMENT, () -> x.advance(501));
        CHECK.same("502", x.advance(1), 502);
    }

    private static void promise22NotLaterThan5000() {
        CHECK.of("Promise 22: if the time would be later than 5000");
        for (int last : new int[] {1, 2, 499, 500}) {
            Foundrymark x = new Foundrymark();
            Workshop.pass(x, 5000 - last);
            if (last < 500) {
                CHECK.fails("5001", Check.STATE, () -> x.advance(last + 1));
                CHECK.fails("far later", Check.STATE, () -> x.advance(500));
            }
            CHECK.same("5000", x.advance(last), 5000);
            CHECK.fails("no time is left", Check.STATE, () -> x.advance(1));
            CHECK.fails("nor for more", Check.STATE, () -> x.advance(500));
        }
        Foundrymark x = Workshop.late();
        CHECK.fails("5001", Check.STATE, () -> x.advance(2));
        CHECK.same("5000", x.advance(1), 5000);
        CHECK.same("what goes on then never ends", x.stateOf(0), 'o');
        CHECK.same("meanBusy()", x.meanBusy(), 10.0);
        CHECK.same("isSound()", x.isSound(), true);
    }

    private static void promise22InOneGoOrInMany() {
        CHECK.of("Promise 22: Lets time go on: in one go as in many");
        for (int by : new int[] {2, 7, 50, 120}) {
            Foundrymark x = Workshop.busy();
            Foundrymark y = Workshop.busy();
            x.advance(by);
            for (int i = 0; i < by; i++) {
                y.advance(1);
            }
            CHECK.same("all answers behind " + by, Answers.asked(x), Answers.asked(y));
        }
    }

    // ---- promises 27 to 29

    private static void machineEdges() {
        promise27NoSuchMachine();
        promise27EachState();
        promise28NoSuchMachine();
        promise28Wear();
        promise29NoSuchMachine();
        promise29Waiting();
    }

    private static void promise27NoSuchMachine() {
        CHECK.of("Promise 27: if there is no such machine");
        CHECK.range(0, 0, Check.INDEX, n -> machines(1).machineIs(n));
        CHECK.range(0, 4, Check.INDEX, n -> machines(5).machineIs(n));
    }

    private static void promise27EachState() {
        CHECK.of("Promise 27: '-' free, 'o' it does an operation, 'b' it is repaired");
        Foundrymark x = Workshop.machine(1, 2, 5, 3);
        CHECK.same("at first", x.machineIs(0), '-');
        Workshop.job(x, 0, 5, 0);
        String due = "ooooooobbb--";
        for (int i = 0; i < due.length(); i++) {
            CHECK.same("at the time " + i, x.machineIs(0), due.charAt(i));
            x.advance(1);
        }
    }

    private static void promise28NoSuchMachine() {
        CHECK.of("Promise 28: if there is no such machine");
        CHECK.range(0, 0, Check.INDEX, n -> machines(1).wear(n));
        CHECK.range(0, 4, Check.INDEX, n -> machines(5).wear(n));
    }

    private static void promise28Wear() {
        CHECK.of("Promise 28: Returns the number of pieces");
        Foundrymark x = Workshop.machine(1, 0, 10, 3);
        CHECK.same("none at first", x.wear(0), 0);
        Workshop.job(x, 0, 4, 0);
        Workshop.job(x, 0, 5, 0);
        x.advance(3);
        CHECK.same("none before the end", x.wear(0), 0);
        x.advance(1);
        CHECK.same("at the end", x.wear(0), 4);
        x.advance(5);
        CHECK.same("both", x.wear(0), 9);
        Workshop.job(x, 0, 1, 0);
        x.advance(1);
        CHECK.same("its life", x.wear(0), 0);
    }

    private static void promise29NoSuchMachine() {
        CHECK.of("Promise 29: if there is no such machine");
        CHECK.range(0, 0, Check.INDEX, n -> machines(1).waiting(n));
        CHECK.range(0, 4, Check.INDEX, n -> machines(5).waiting(n));
    }

    private static void promise29Waiting() {
        CHECK.of("Promise 29: Returns how many jobs wait for a machine");
        Foundrymark x = Workshop.machine(1, 0, 500, 1);
        CHECK.same("none at first", x.waiting(0), 0);
        for (int i = 0; i < 30; i++) {
            Workshop.job(x, 0, 1, 0);
            CHECK.same("the one that is done doesn't wait", x.waiting(0), i);
        }
        for (int left = 28; left >= 0; left--) {
            x.advance(1);
            CHECK.same("left", x.waiting(0), left);
        }
        x.advance(1);
        CHECK.same("none at the end", x.waiting(0), 0);
        CHECK.same("machineIs(0)", x.machineIs(0), '-');
    }

    // ---- which machine a job goes to

    private static void alternativeEdges() {
        asManyJobsThere();
        fewerJobsThere();
        oneBeingDoneIsOneJob();
        noAlternative();
        brokenMachinesHaveNoJobs();
        theMachineItself();
        atTheSecondOperation();
        whatEndedIsDoneNoMore();
    }

    private static void asManyJobsThere() {
        CHECK.of("Terms, Jobs: it goes to the machine, if not fewer jobs are at the alternative one");
        Foundrymark x = machines(2);
        int part = part(x, 1, 0, 9);
        Workshop.job(x, part, 1, 0);
        CHECK.same("none at either", x.machineIs(1), 'o');
        CHECK.same("machineIs(0)", x.machineIs(0), '-');
        Workshop.job(x, part, 1, 0);
        CHECK.same("fewer at the alternative one", x.machineIs(0), 'o');
        Workshop.job(x, part, 1, 0);
        CHECK.same("one is done at each", x.waiting(1), 1);
        CHECK.same("waiting(0)", x.waiting(0), 0);
    }

    private static void fewerJobsThere() {
        CHECK.of("Terms, Jobs: if fewer jobs wait there or are being done there");
        Foundrymark x = machines(2);
        int first = part(x, 0, -1, 20);
        int second = part(x, 1, -1, 20);
        int either = part(x, 0, 1, 20);
        Workshop.job(x, first, 1, 0);
        Workshop.job(x, first, 1, 0);
        Workshop.job(x, second, 1, 0);
        Workshop.job(x, either, 1, 0);
        CHECK.same("2 against 1", x.waiting(1), 1);
        Workshop.job(x, either, 1, 0);
        CHECK.same("2 against 2", x.waiting(0), 2);
        Workshop.job(x, either, 1, 0);
        CHECK.same("3 against 2", x.waiting(1), 2);
        Workshop.job(x, second, 1, 0);
        Workshop.job(x, either, 1, 0);
        CHECK.same("3 against 4", x.waiting(0), 3);
        Foundrymark y = machines(2);
        int waits = part(y, 0, -1, 20);
        int other = part(y, 0, 1, 20);
        Workshop.job(y, waits, 1, 0);
        y.advance(1);
        Workshop.job(y, other, 1, 0);
        CHECK.same("1 being done against none", y.machineIs(1), 'o');
        Workshop.job(y, other, 1, 0);
        CHECK.same("1 being done against 1 being done", y.waiting(0), 1);
    }

    private static void oneBeingDoneIsOneJob() {
        CHECK.of("Terms, Jobs: if fewer jobs wait there or are being done there: each is one");
        Foundrymark x = new Foundrymark();
        x.addMachine(1, 0, 500, 1);
        x.addMachine(1, 0, 5, 90);
        int first = part(x, 0, -1, 20);
        int second = part(x, 1, -1, 1);
        int either = part(x, 0, 1, 20);
        Workshop.job(x, second, 5, 0);
        x.advance(5);
        CHECK.same("machineIs(1)", x.machineIs(1), 'b');
        for (int i = 0; i < 2; i++) {
            Workshop.job(x, first, 1, 0);
            Workshop.job(x, second, 1, 0);
        }
        Workshop.job(x, either, 1, 0);
        CHECK.same("1 waiting and 1 being done against 2 waiting", x.waiting(0), 2);
        Workshop.job(x, either, 1, 0);
        CHECK.same("2 waiting and 1 being done against 2 waiting", x.waiting(1), 3);
    }

    private static void noAlternative() {
        CHECK.of("Terms, Parts: perhaps an alternative one: none");
        Foundrymark x = machines(2);
        int part = part(x, 1, -1, 5);
        for (int i = 0; i < 4; i++) {
            Workshop.job(x, part, 1, 0);
        }
        CHECK.same("all at the machine", x.waiting(1), 3);
        CHECK.same("machineIs(0)", x.machineIs(0), '-');
    }

    private static void brokenMachinesHaveNoJobs() {
        CHECK.of("Terms, Jobs: a machine that is repaired does no job");
        Foundrymark x = new Foundrymark();
        x.addMachine(1, 0, 5, 9);
        x.addMachine(1, 0, 500, 9);
        int part = part(x, 0, 1, 1);
        Workshop.job(x, part, 5, 0);
        x.advance(5);
        CHECK.same("machineIs(0)", x.machineIs(0), 'b');
        Workshop.job(x, part, 1, 0);
        CHECK.same("none against none", x.waiting(0), 1);
        Workshop.job(x, part, 1, 0);
        CHECK.same("1 waiting against none", x.machineIs(1), 'o');
    }

    private static void theMachineItself() {
        CHECK.of("Promise 5: the machine as its own alternative one");
        Foundrymark x = machines(1);
        int part = part(x, 0, 0, 2);
        for (int i = 0; i < 3; i++) {
            Workshop.job(x, part, 1, 0);
        }
        CHECK.same("waiting(0)", x.waiting(0), 2);
        x.advance(6);
        CHECK.same("finishedAt(2)", x.finishedAt(2), 6);
    }

    private static void atTheSecondOperation() {
        CHECK.of("Terms, Jobs: For an operation, it goes to the machine, or to the alternative one");
        Foundrymark x = machines(3);
        int part = part(x, 0, -1, 1);
        x.addOperation(part, 1, 2, 9);
        for (int i = 0; i < 3; i++) {
            Workshop.job(x, part, 1, 0);
        }
        x.advance(1);
        CHECK.same("the first to the machine", x.machineIs(1), 'o');
        CHECK.same("machineIs(2)", x.machineIs(2), '-');
        x.advance(1);
        CHECK.same("the second to the other", x.machineIs(2), 'o');
        x.advance(1);
        CHECK.same("the third to the machine", x.waiting(1), 1);
        CHECK.same("waiting(2)", x.waiting(2), 0);
    }

    private static void whatEndedIsDoneNoMore() {
        CHECK.of("Terms, Jobs: are being done there: what has ended there is done no more");
        Foundrymark x = machines(2);
        int stays = part(x, 0, -1, 3);
        x.addOperation(stays, 0, 1, 3);
        Workshop.job(x, stays, 1, 0);
        x.advance(3);
        CHECK.same("none at either: to the machine again", x.machineIs(0), 'o');
        CHECK.same("machineIs(1)", x.machineIs(1), '-');
        Foundrymark y = machines(2);
        int returns = part(y, 0, -1, 3);
        y.addOperation(returns, 1, 0, 3);
        int other = part(y, 1, -1, 9);
        Workshop.job(y, returns, 1, 0);
        Workshop.job(y, other, 1, 0);
        y.advance(3);
        CHECK.same("1 against none: to the alternative one", y.machineIs(0), 'o');
        CHECK.same("waiting(1)", y.waiting(1), 0);
        Foundrymark z = machines(2);
        int leaves = part(z, 0, -1, 3);
        z.addOperation(leaves, 0, 1, 3);
        Workshop.job(z, leaves, 1, 0);
        Workshop.job(z, leaves, 1, 9);
        z.advance(3);
        CHECK.same("1 waiting against none: to the alternative one", z.machineIs(1), 'o');
        CHECK.same("what waited begins", z.stateOf(1), 'o');
        CHECK.same("waiting(0)", z.waiting(0), 0);
    }

    // ---- which job a machine does

    private static void queueEdges() {
        earliestDueTime();
        lowestOrder();
        whatIsDoneIsNotLeft();
        laterOnesWithEarlierDueTimes();
    }

    private static void earliestDueTime() {
        CHECK.of("Terms, Jobs: the one with the earliest due time");
        Foundrymark x = Workshop.machine(1, 0, 500, 1);
        int[] due = {0, 9999, 7, 8, 6, 0, 9998};
        for (int i = 0; i < due.length; i++) {
            Workshop.job(x, 0, 1, due[i]);
        }
        x.advance(7);
        int[] finished = {1, 7, 4, 5, 3, 2, 6};
        for (int i = 0; i < due.length; i++) {
            CHECK.same("finishedAt(" + i + ")", x.finishedAt(i), finished[i]);
        }
    }

    private static void lowestOrder() {
        CHECK.of("Terms, Jobs: of several the lowest order");
        Foundrymark x = Workshop.machine(1, 0, 500, 1);
        for (int i = 0; i < 6; i++) {
            x.order(0, 1, 0, 5);
        }
        for (int order : new int[] {3, 5, 2, 4, 0, 1}) {
            x.release(order);
        }
        x.advance(6);
        int[] finished = {2, 3, 4, 1, 5, 6};
        for (int i = 0; i < 6; i++) {
            CHECK.same("finishedAt(" + i + ")", x.finishedAt(i), finished[i]);
        }
    }

    private static void whatIsDoneIsNotLeft() {
        CHECK.of("Terms, Jobs: A machine that is free does, of the jobs that wait for it");
        Foundrymark x = Workshop.machine(1, 0, 500, 1);
        Workshop.job(x, 0, 9, 9999);
        x.advance(1);
        Workshop.job(x, 0, 1, 0);
        CHECK.same("the one that is done goes on", x.stateOf(0), 'o');
        x.advance(8);
        CHECK.same("finishedAt(0)", x.finishedAt(0), 9);
        CHECK.same("stateOf(1)", x.stateOf(1), 'o');
    }

    private static void laterOnesWithEarlierDueTimes() {
        CHECK.of("Terms, Jobs: a job that comes back to wait with the others");
        Foundrymark x = machines(1);
        int twice = part(x, 0, -1, 2);
        x.addOperation(twice, 0, -1, 2);
        int once = part(x, 0, -1, 2);
        Workshop.job(x, twice, 1, 5);
        Workshop.job(x, once, 1, 5);
        Workshop.job(x, once, 1, 4);
        x.advance(2);
        CHECK.same("the earlier due one first", x.stateOf(2), 'o');
        x.advance(2);
        CHECK.same("then the lower order's second operation", x.stateOf(0), 'o');
        x.advance(4);
        CHECK.same("finishedAt(0)", x.finishedAt(0), 6);
        CHECK.same("finishedAt(1)", x.finishedAt(1), 8);
    }

    // ---- setups and times

    private static void setupEdges() {
        setUpForTheFamily();
        atLeastOne();
        piecesAsItBegins();
        setupOfAnotherMachine();
    }

    private static void setUpForTheFamily() {
        CHECK.of("Terms, Jobs: the setup first, if it is not set up for the part's family, and is then");
        Foundrymark x = new Foundrymark();
        x.addMachine(1, 10, 500, 1);
        int[] families = {2, 2, 0, 0, 2, 3};
        for (int i = 0; i < families.length; i++) {
            x.addPart(true, families[i]);
            x.addOperation(i, 0, -1, 1);
            Workshop.job(x, i, 1, i);
        }
        x.advance(100);
        int[] finished = {11, 12, 23, 24, 35, 46};
        for (int i = 0; i < families.length; i++) {
            CHECK.same("finishedAt(" + i + ")", x.finishedAt(i), finished[i]);
        }
    }

    private static void atLeastOne() {
        CHECK.of("Terms, Jobs: both together at least 1");
        for (int setup : new int[] {0, 1, 2}) {
            Foundrymark x = new Foundrymark();
            x.addMachine(7, 0, 500, 1);
            x.addMachine(7, setup, 500, 1);
            int part = part(x, 0, -1, 1);
            x.addOperation(part, 1, -1, 20);
            Workshop.job(x, part, 3, 0);
            x.scrap(0, 3);
            x.advance(3);
            CHECK.same("no pieces, and the setup " + setup, x.stateOf(0), 'o');
            x.advance(5);
            CHECK.same("finishedAt(0)", x.finishedAt(0), 3 + Math.max(1, setup));
            CHECK.same("isSound()", x.isSound(), true);
        }
    }

    private static void piecesAsItBegins() {
        CHECK.of("Terms, Jobs: times the pieces that the job has as it begins");
        Foundrymark x = Workshop.machine(1, 0, 500, 1);
        Workshop.job(x, 0, 6, 0);
        Workshop.job(x, 0, 6, 0);
        x.scrap(0, 4);
        x.scrap(1, 4);
        x.advance(5);
        CHECK.same("scrapped behind its begin", x.stateOf(0), 'o');
        x.advance(1);
        CHECK.same("finishedAt(0)", x.finishedAt(0), 6);
        CHECK.same("the pieces that it has then", x.wear(0), 2);
        x.advance(2);
        CHECK.same("scrapped before its begin", x.finishedAt(1), 8);
    }

    private static void setupOfAnotherMachine() {
        CHECK.of("Terms, Machines: each with a setup");
        Foundrymark x = new Foundrymark();
        x.addMachine(1, 4, 500, 1);
        x.addMachine(1, 6, 500, 1);
        int part = part(x, 0, -1, 1);
        x.addOperation(part, 1, -1, 1);
        Workshop.job(x, part, 1, 0);
        x.advance(20);
        CHECK.same("each is set up alone", x.finishedAt(0), 5 + 7);
        Workshop.job(x, part, 1, 0);
        x.advance(20);
        CHECK.same("and stays so", x.finishedAt(1), 22);
    }

    // ---- wear and repairs

    private static void wearEdges() {
        lifeOrMore();
        repairedForItsRepair();
        setUpBehindARepair();
        brokenByTheLastOperation();
    }

    private static void lifeOrMore() {
        CHECK.of("Terms, Jobs: if it is its life or more, it becomes 0, and the machine is broken");
        for (int pieces : new int[] {9, 10, 11, 100}) {
            Foundrymark x = Workshop.machine(1, 0, 10, 5);
            Workshop.job(x, 0, pieces, 0);
            x.advance(pieces);
            CHECK.same(pieces + " pieces, wear", x.wear(0), pieces < 10 ? 9 : 0);
            CHECK.same(pieces + " pieces, state", x.machineIs(0), pieces < 10 ? '-' : 'b');
        }
    }

    private static void repairedForItsRepair() {
        CHECK.of("Terms, Jobs: and is repaired for its repair");
        Foundrymark x = Workshop.machine(1, 0, 5, 4);
        Workshop.job(x, 0, 5, 0);
        Workshop.job(x, 0, 1, 0);
        x.advance(8);
        CHECK.same("just before", x.machineIs(0), 'b');
        CHECK.same("it waits", x.stateOf(1), 'w');
        x.advance(1);
        CHECK.same("a repair ends, and a job begins at this time", x.stateOf(1), 'o');
        x.advance(1);
        CHECK.same("finishedAt(1)", x.finishedAt(1), 10);
        CHECK.same("wear begins at 0", x.wear(0), 1);
        CHECK.same("a repair costs nothing", x.costOf(1), 1);
        CHECK.same("and is no operation", x.meanBusy(), 6.0);
    }

    private static void setUpBehindARepair() {
        CHECK.of("Terms, Jobs: a machine that was repaired is set up as before");
        Foundrymark x = Workshop.machine(1, 3, 5, 2);
        Workshop.job(x, 0, 5, 0);
        Workshop.job(x, 0, 1, 0);
        x.advance(20);
        CHECK.same("finishedAt(1)", x.finishedAt(1), 8 + 2 + 1);
    }

    private static void brokenByTheLastOperation() {
        CHECK.of("Terms, Jobs: the job goes on, though its machine is broken");
        Foundrymark x = new Foundrymark();
        x.addMachine(1, 0, 5, 50);
        x.addMachine(1, 0, 500, 1);
        int part = part(x, 0, -1, 1);
        x.addOperation(part, 1, 0, 1);
        Workshop.job(x, part, 5, 0);
        x.advance(5);
        CHECK.same("machineIs(0)", x.machineIs(0), 'b');
        CHECK.same("at the next machine", x.machineIs(1), 'o');
        x.advance(5);
        CHECK.same("finishedAt(0)", x.finishedAt(0), 10);
    }

    // ---- what comes first at each time

    private static void orderOfEvents() {
        endsBeforeBegins();
        endsByRisingMachines();
        higherMachinesAreStillAtWork();
        lowerMachinesHaveEnded();
        toALowerMachineAtOnce();
        afterTheLastOperation();
    }

    private static void endsBeforeBegins() {
        CHECK.of("Terms, Jobs: first, what ends at this time ends; then those that are free begin");
        Foundrymark x = machines(2);
        int moves = part(x, 1, -1, 4);
        x.addOperation(moves, 0, -1, 4);
        int stays = part(x, 0, -1, 4);
        Workshop.job(x, moves, 1, 1);
        Workshop.job(x, stays, 1, 0);
        Workshop.job(x, stays, 1, 2);
        x.advance(4);
        CHECK.same("what comes at this time, and is due earlier", x.stateOf(0), 'o');
        CHECK.same("what waited", x.stateOf(2), 'w');
    }

    private static void endsByRisingMachines() {
        CHECK.of("Terms, Jobs: by rising machines, what ends at this time ends");
        Foundrymark x = machines(3);
        int[] parts = {part(x, 2, -1, 3), part(x, 1, -1, 3), part(x, 0, -1, 3)};
        for (int i = 0; i < 3; i++) {
            Workshop.job(x, parts[i], 1, 0);
        }
        x.advance(3);
        for (int i = 0; i < 3; i++) {
            CHECK.same("lotOf(" + i + ")", x.lotOf(i), 2 - i);
        }
    }

    private static void higherMachinesAreStillAtWork() {
        CHECK.of("Terms, Jobs: a higher machine's operation that ends at this time is done still");
        Foundrymark x = machines(3);
        int moves = part(x, 0, -1, 3);
        x.addOperation(moves, 1, 2, 1);
        int stays = part(x, 1, -1, 3);
        Workshop.job(x, moves, 1, 0);
        Workshop.job(x, stays, 1, 0);
        x.advance(3);
        CHECK.same("stateOf(1)", x.stateOf(1), 'f');
        CHECK.same("to the alternative one", x.machineIs(2), 'o');
        CHECK.same("machineIs(1)", x.machineIs(1), '-');
    }

    private static void lowerMachinesHaveEnded() {
        CHECK.of("Terms, Jobs: a lower machine's operation that ends at this time is done no more");
        Foundrymark x = machines(3);
        int moves = part(x, 2, -1, 3);
        x.addOperation(moves, 1, 0, 1);
        int stays = part(x, 1, -1, 3);
        Workshop.job(x, moves, 1, 0);
        Workshop.job(x, stays, 1, 0);
        x.advance(3);
        CHECK.same("stateOf(1)", x.stateOf(1), 'f');
        CHECK.same("to the machine", x.machineIs(1), 'o');
        CHECK.same("machineIs(0)", x.machineIs(0), '-');
    }

    private static void toALowerMachineAtOnce() {
        CHECK.of("Terms, Jobs: by which the job goes to its next one");
        Foundrymark x = machines(5);
        int down = part(x, 4, -1, 2);
        x.addOperation(down, 2, -1, 2);
        x.addOperation(down, 0, -1, 2);
        int up = part(x, 1, -1, 2);
        x.addOperation(up, 3, -1, 2);
        x.addOperation(up, 1, -1, 2);
        Workshop.job(x, down, 1, 0);
        Workshop.job(x, up, 1, 0);
        x.advance(5);
        CHECK.same("the third operation", x.stateOf(0), 'o');
        CHECK.same("the third operation", x.stateOf(1), 'o');
        x.advance(1);
        CHECK.same("no time is lost to a lower machine", x.finishedAt(0), 6);
        CHECK.same("nor to a higher one, or the same again", x.finishedAt(1), 6);
    }

    private static void afterTheLastOperation() {
        CHECK.of("Terms, Jobs: A job without further operations is finished");
        Foundrymark x = machines(1);
        int part = part(x, 0, -1, 1);
        Workshop.job(x, part, 2, 0);
        x.advance(1);
        CHECK.same("lots()", x.lots(), 0);
        x.advance(1);
        CHECK.same("stateOf(0)", x.stateOf(0), 'f');
        CHECK.same("lotOf(0)", x.lotOf(0), 0);
        CHECK.same("machineIs(0)", x.machineIs(0), '-');
        CHECK.same("waiting(0)", x.waiting(0), 0);
    }
}
