/** The sentences of "What it is" and of "Terms" about entities, roots and numbers, one by one. */
public final class EntitiesTest extends Sentences {
    private static void usedForAllCalls() {
        sentence("An object is used for at most 512 calls");
        Net net = new Net(2);
        net.program(0, ADD, 0, KEEP, 0, OUT, 0);
        int sum = 0;
        for (int i = 1; net.callsLeft() >= 4; i++) {
            sum += i;
            net.pokes(0, i);
            net.turns(0, 1);
            due("output", net.output(0, 0), sum);
            due("outputs", net.count(0, OUTPUTS), i);
        }
        while (net.callsLeft() > 0) {
            due("the last calls", net.number(1), sum);
        }

        net = new Net(4);
        net.gives(0, 0, 1);
        net.gives(0, 1, 2);
        net.program(0, GET, 1, SEND, 0);
        int sent = 0;
        while (net.callsLeft() >= 4) {
            net.pokes(0, 0);
            net.turns(0, 1);
            sent = Math.min(100, sent + 1);
            due("calls in flight", net.flying(0, 1), sent);
        }
        due("gifts in flight", net.flying(0, 2), 100);
    }

    private static void objectsInOrder() {
        sentence("OBJECTS, numbered 1, 2, .. in the order in which they are made");
        Net net = new Net(3);
        for (int v = 2; v >= 0; v--) {
            net.program(v, NEW, 7, PUT, 1, NEW, 7, PUT, 2);
            net.run(v, 10 + v);
        }
        for (int v = 2; v >= 0; v--) {
            int first = 4 + 2 * (2 - v);
            net.slots(v + 1, 0, first, first + 1, 0);
            due("home of the first", net.home(first), v);
            due("home of the second", net.home(first + 1), v);
            due("number", net.number(first), 10 + v);
            due("slot 0 of the second", net.slot(first + 1, 0), first);
        }
        due("object 10", net.home(10), -1);
    }

    /** Objects are made in all vats until there are so many. */
    private static void makeObjects(Net net, int size, int most) {
        for (int v = 0; v < size; v++) {
            net.program(v, NEW, 7, PUT, 1);
        }
        for (int e = size + 1; e <= most; e++) {
            int v = e % size;
            net.pokes(v, e);
            net.turns(v, v + 1);
            due("the new object", net.slot(v + 1, 1), e);
        }
    }

    private static void sixtyObjects(int size) {
        sentence("OBJECTS .. (at most 60 ever), in a net of " + size);
        Net net = new Net(size);
        makeObjects(net, size, 60);
        int v = 60 % size;
        due("home of object 60", net.home(60), v);
        due("number of object 60", net.number(60), 60);
        due("no object 61", net.home(61), -1);
        int all = 0;
        for (int w = 0; w < size; w++) {
            all += net.count(w, OBJECTS);
        }
        due("objects in all", all, 60);
        for (int w = 0; w < size; w++) {
            net.run(w, 61);
            due("none more in vat " + w, net.slot(w + 1, 1), 0);
            due("no object 61", net.home(61), -1);
            due("number of object 61", net.number(61), 0);
        }
    }

    private static void promisesInOrder() {
        sentence("PROMISES, numbered 101, 102, .. likewise");
        Net net = new Net(3);
        net.gives(0, 0, 1);
        net.gives(1, 0, 1);
        net.gives(2, 0, 0);
        net.runs(2, SEND, 0, PUT, 1, SEND, 0, PUT, 2);
        net.runs(0, SEND, 0, PUT, 1);
        net.runs(1, SEND, 0, PUT, 1);
        due("sent by vat 2", net.slot(3, 1), 101);
        due("sent by vat 2 again", net.slot(3, 2), 102);
        due("sent by vat 0", net.slot(1, 1), 103);
        due("sent by vat 1", net.slot(2, 1), 104);
        int[] homes = {0, 0, 1, 1, -1};
        for (int i = 0; i < homes.length; i++) {
            due("home of promise " + (101 + i), net.home(101 + i), homes[i]);
        }
    }

    /** Vat 0 sends to vat 1, vat 1 to itself, until 100 promises were made. */
    private static Net hundredPromises() {
        Net net = new Net(2);
        net.gives(0, 0, 1);
        net.gives(1, 0, 1);
        net.program(0, SEND, 0, SEND, 0, SEND, 0, SEND, 0, SEND, 0, SEND, 0, SEND, 0, PUT, 1);
        for (int i = 1; i <= 14; i++) {
            net.run(0, i);
            due("the latest promise", net.slot(1, 1), 100 + 7 * i);
        }
        net.runs(1, SEND, 0, PUT, 1);
        due("promise 199", net.slot(2, 1), 199);
        net.runs(0, SEND, 0, PUT, 1);
        due("promise 200", net.slot(1, 1), 200);
        return net;
    }

    private static void atMostHundredPromises() {
        sentence("PROMISES .. (at most 100 ever)");
        Net net = hundredPromises();
        due("home of promise 200", net.home(200), 1);
        due("open", net.resolved(200), -1);
        due("open promises", net.count(1, OPEN), 100);
        net.run(0, 0);
        due("none more from vat 0", net.slot(1, 1), 0);
        net.program(1, SEND, 0, PUT, 1);
        net.turns(1, 2);
        due("none more from vat 1", net.slot(2, 1), 0);
        due("no promise 201", net.home(201), -1);
        due("not resolved either", net.resolved(201), -1);
        due("promises", net.count(1, OPEN) + net.count(1, RESOLVED), 100);
        due("calls", net.flying(0, 1), 99);
    }

    private static void numbersNotUsedAgain() {
        sentence("numbers are not used again");
        Net net = new Net(2);
        net.gives(0, 3, 0);
        net.runs(0, NEW, 7, SEND, 3);
        net.program(0);
        net.turns(0, 1);
        net.sweeps(0, 2);
        due("object 3 is freed", net.home(3), -1);
        due("promise 101 is freed", net.home(101), -1);
        net.runs(0, NEW, 7, PUT, 1, SEND, 3, PUT, 2);
        net.slots(1, 0, 4, 102, 1);
        due("object 3 is still freed", net.home(3), -1);
        due("promise 101 is still freed", net.home(101), -1);

        net = new Net(2);
        makeObjects(net, 2, 60);
        net.sweeps(0, 28);
        net.sweeps(1, 28);
        for (int v = 0; v < 2; v++) {
            net.run(v, 1);
            due("none after 60, though freed", net.slot(v + 1, 1), 0);
        }

        net = hundredPromises();
        net.sweeps(0, 0);
        for (int i = 0; i < 99; i++) {
            net.delivers(0, 1, CALL);
        }
        for (int i = 0; i < 98; i++) {
            net.delivers(0, 1, RELEASE);
        }
        net.sweeps(1, 14);
        net.run(0, 1);
        due("none after 100, though freed", net.slot(1, 1), 0);
    }

    private static void noneIsZero() {
        sentence("A REFERENCE is 0 (none) or the number of an entity");
        Net net = new Net(2);
        net.gives(0, 0, 0);
        net.runs(0, SELF, 0, PUT, 1, NIL, 0, PUT, 2, SEND, 0, PUT, 3);
        net.slots(1, 1, 1, 0, 101);
        net.program(0);
        net.turns(0, 1);
        due("resolved to none", net.resolved(101), 0);
        net.runs(0, SEND, 2, PUT, 3);
        due("a call of none makes no promise", net.slot(1, 3), 0);
    }

    private static void homes() {
        sentence("Each is at HOME in one vat");
        Net net = new Net(4);
        for (int v = 0; v < 4; v++) {
            net.gives(v, 0, (v + 1) % 4);
            net.runs(v, NEW, 7, SEND, 0);
        }
        for (int v = 0; v < 4; v++) {
            due("home of a root", net.home(v + 1), v);
            due("home of an object", net.home(5 + v), v);
            due("home of a promise", net.home(101 + v), (v + 1) % 4);
            due("objects", net.count(v, OBJECTS), 2);
            due("promises", net.count(v, OPEN), 1);
        }
    }

    private static void roots() {
        sentence("Vat v (0, 1, ..) has a ROOT, object v + 1, with program v");
        Net net = new Net(4);
        for (int v = 0; v < 4; v++) {
            net.program(v, SELF, 0, PUT, v, SET, 100 + v, OUT, 0);
        }
        for (int v = 0; v < 4; v++) {
            net.run(v, 0);
            due("what it is", net.slot(v + 1, v), v + 1);
            due("what program " + v + " puts out", net.output(v, 0), 100 + v);
            due("outputs", net.count(v, OUTPUTS), 1);
        }
    }

    private static void slotsFromZeroToThree() {
        sentence("An object has .. slots 0 .. 3 with references");
        Net net = new Net(4);
        for (int s = 0; s < 4; s++) {
            net.gives(0, s, s);
        }
        net.slots(1, 1, 2, 3, 4);
        net.runs(0, GET, 3, NEW, 4, PUT, 3);
        net.slots(1, 1, 2, 3, 5);
        net.slots(5, 4, 0, 0, 0);
        net.program(4, SELF, 0, PUT, 1, PUT, 2, PUT, 3, NIL, 0, PUT, 0);
        net.runs(0, SEND, 3);
        net.turns(0, 5);
        net.slots(5, 0, 5, 5, 5);
        net.slots(1, 1, 2, 3, 5);
    }

    private static void openAtFirst() {
        sentence("A promise is open at first; then it is RESOLVED to a reference");
        Net net = new Net(2);
        net.gives(0, 0, 1);
        net.runs(0, SELF, 0, SEND, 0, PUT, 1);
        due("open", net.resolved(101), -1);
        net.counts(1, 1, 1, 0);
        net.delivers(0, 1, CALL);
        due("open before the turn", net.resolved(101), -1);
        net.turns(1, 2);
        due("resolved", net.resolved(101), 1);
        net.counts(1, 1, 0, 1);
    }

    public static void main(String[] args) {
        usedForAllCalls();
        objectsInOrder();
        sixtyObjects(2);
        sixtyObjects(3);
        sixtyObjects(4);
        promisesInOrder();
        atMostHundredPromises();
        numbersNotUsedAgain();
        noneIsZero();
        homes();
        roots();
        slotsFromZeroToThree();
        openAtFirst();
        Check.end();
    }
}
