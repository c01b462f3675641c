/** The sentences of promises 1 to 18, with what is answered at the edges and when refused. */
public final class AnswersTest extends Sentences {
    private static final int[] NO_PROGRAM = {MIN, -1, 8, 9, MAX};
    private static final int[] NO_SLOT = {MIN, -1, 4, 5, MAX};
    private static final int[] NO_KIND = {MIN, -1, 8, 9, MAX};
    /** Numbers that no entity of busyNet has. */
    private static final int[] NO_ENTITY = {
        MIN, -101, -1, 0, 6, 7, 60, 61, 99, 100, 105, 106, 200, 201, 202, MAX
    };

    private static int[] noVat(int size) {
        return new int[] {MIN, -1, size, size + 1, MAX};
    }

    private static void sizeOfTheNet(int asked, int size) {
        sentence("promise 1: (2 if it is less, 4 if it is more), for " + asked);
        Net net = new Net(asked);
        for (int v = -1; v < 6; v++) {
            boolean there = v >= 0 && v < size;
            due("poke vat " + v, net.poke(v, 0), there);
            due("turn", net.turn(v), there ? v + 1 : -1);
            due("sweep", net.sweep(v), there ? 0 : -1);
            due("objects", net.count(v, OBJECTS), there ? 1 : 0);
            due("home of the root", net.home(v + 1), there ? v : -1);
            due("give", net.give(0, 0, v), there);
        }
    }

    private static void sizesOfTheNet() {
        int[] less = {MIN, -4, -1, 0, 1, 2};
        int[] more = {4, 5, 6, 8, MAX};
        for (int asked : less) {
            sizeOfTheNet(asked, 2);
        }
        sizeOfTheNet(3, 3);
        for (int asked : more) {
            sizeOfTheNet(asked, 4);
        }
    }

    private static void nothingAtFirst() {
        sentence("promise 1: roots, whose numbers are 0 and slots none; .. nothing is in flight");
        Net net = new Net(4);
        for (int v = 0; v < 4; v++) {
            due("number", net.number(v + 1), 0);
            net.slots(v + 1, 0, 0, 0, 0);
            for (int b = 0; b < 4; b++) {
                due("in flight", net.flying(v, b), 0);
                due("x", net.exported(v + 1, b), 0);
                due("c", net.imported(b, v + 1), 0);
            }
            due("inbox", net.inbox(v), 0);
            net.counts(v, 1, 0, 0, 0, 0, 0, 0, 0);
            due("output", net.output(v, 0), 0);
        }
        due("no other object", net.home(5), -1);
        due("no promise", net.home(101), -1);
    }

    private static void programsAreEmpty() {
        sentence("promise 1: all programs are empty");
        Net net = new Net(4);
        for (int v = 0; v < 4; v++) {
            net.run(v, 9);
            net.counts(v, 1, 0, 0, 0, 0, 0, 0, 0);
            due("number", net.number(v + 1), 0);
        }
        for (int p = 0; p < 8; p++) {
            for (int i = 0; i < 8; i++) {
                due("room for eight in program " + p, net.code(p, NIL, 0), true);
            }
            due("and not for nine", net.code(p, NIL, 0), false);
        }
    }

    private static void netsApart() {
        sentence("promise 1: a net of its own");
        Net one = new Net(2);
        Net other = new Net(2);
        one.gives(0, 0, 1);
        one.program(0, KEEP, 0, OUT, 0, NEW, 7, SEND, 0);
        one.run(0, 5);
        other.run(0, 6);
        due("number", other.number(1), 0);
        due("slot", other.slot(1, 0), 0);
        due("outputs", other.count(0, OUTPUTS), 0);
        due("object 3", other.home(3), -1);
        due("promise 101", other.home(101), -1);
        due("in flight", other.flying(0, 1), 0);
        due("number of the first", one.number(1), 5);
    }

    private static void codeAtTheEnd() {
        sentence("promise 2: Adds an instruction op .. with x to the end of a program");
        Net net = new Net(2);
        for (int i = 1; i <= 4; i++) {
            due("SET", net.code(0, SET, i), true);
            due("OUT", net.code(0, OUT, 0), true);
        }
        net.run(0, 0);
        for (int k = 0; k < 4; k++) {
            due("in this order", net.output(0, k), 4 - k);
        }
        due("outputs", net.count(0, OUTPUTS), 4);
    }

    private static void codeOps() {
        sentence("promise 2: op (0 .. 10) .. false if there is none such");
        Net net = new Net(2);
        for (int op = 0; op <= 10; op++) {
            due("op " + op, net.code(op % 8, op, 0), true);
        }
        int[] wrong = {MIN, -2, -1, 11, 12, 15, MAX};
        for (int op : wrong) {
            due("op " + op, net.code(0, op, 0), false);
        }
    }

    private static void codePrograms() {
        sentence("promise 2: a program (0 .. 7); false if there is none such");
        Net net = new Net(2);
        for (int p = 0; p < 8; p++) {
            due("program " + p, net.code(p, OUT, 0), true);
        }
        for (int p : NO_PROGRAM) {
            due("program " + p, net.code(p, OUT, 0), false);
        }
    }

    private static void codeEight() {
        sentence("promise 2: false if .. the program has 8");
        Net net = new Net(2);
        for (int i = 1; i <= 8; i++) {
            due("instruction " + i, net.code(3, OUT, 0), true);
        }
        for (int op = 0; op <= 10; op++) {
            due("instruction 9", net.code(3, op, 0), false);
        }
        due("of another program", net.code(2, OUT, 0), true);
        due("of another program", net.code(4, OUT, 0), true);
        due("clear", net.clear(3), true);
        due("when it was emptied", net.code(3, OUT, 0), true);

        net = new Net(2);
        for (int i = 1; i <= 10; i++) {
            due("instruction " + i, net.code(0, OUT, 0), i <= 8);
        }
        net.run(0, 1);
        due("eight are run", net.count(0, OUTPUTS), 8);
    }

    /** Each x from least to most is fine for the instruction, and those beside them are not. */
    private static void codeRange(int op, int least, int most) {
        Net net = new Net(2);
        for (int x = least; x <= most; x++) {
            due("op " + op + " with " + x, net.code(x, op, x), true);
        }
        int[] wrong = {MIN, least - 2, least - 1, most + 1, most + 2, MAX};
        for (int x : wrong) {
            due("op " + op + " with " + x, net.code(0, op, x), false);
        }
    }

    private static void codeSlots() {
        sentence("promise 2: x is not: for PUT, GET and SEND 0 .. 3");
        codeRange(PUT, 0, 3);
        codeRange(GET, 0, 3);
        codeRange(SEND, 0, 3);
    }

    private static void codeNewAndSkip() {
        sentence("promise 2: x is not: .. for NEW and SKIP 0 .. 7");
        codeRange(NEW, 0, 7);
        codeRange(SKIP, 0, 7);
    }

    private static void codeAnyX() {
        sentence("promise 2: Elsewhere x may be any int");
        int[] ops = {SET, ADD, KEEP, SELF, OUT, NIL};
        int[] xs = {MIN, -1, 0, 3, 4, 7, 8, MAX};
        for (int op : ops) {
            Net net = new Net(2);
            for (int x : xs) {
                due("op " + op + " with " + x, net.code(0, op, x), true);
            }
        }
    }

    private static void clear() {
        sentence("promise 3: Empties a program (turns that come later find it so)");
        Net net = new Net(2);
        net.program(0, OUT, 0);
        net.program(1, OUT, 0);
        net.pokes(0, 1);
        net.pokes(1, 2);
        due("clear", net.clear(0), true);
        net.turns(0, 1);
        net.turns(1, 2);
        due("no output", net.count(0, OUTPUTS), 0);
        due("another program is as it was", net.output(1, 0), 2);
        due("clear of an empty one", net.clear(0), true);
        for (int i = 0; i < 8; i++) {
            due("room", net.code(0, OUT, 0), true);
        }
        due("no more room", net.code(0, OUT, 0), false);
        due("clear of a full one", net.clear(0), true);
        net.program(0, SET, 5, OUT, 0);
        net.run(0, 1);
        due("only what was added since", net.count(0, OUTPUTS), 1);
        due("output", net.output(0, 0), 5);
    }

    private static void clearRefused() {
        sentence("promise 3: false if there is none such");
        Net net = new Net(2);
        for (int p = 0; p < 8; p++) {
            due("program " + p, net.clear(p), true);
        }
        for (int p : NO_PROGRAM) {
            due("program " + p, net.clear(p), false);
        }
    }

    private static void give() {
        sentence("promise 4: Slot s (0 .. 3) of the root of v becomes the root of w, in place of ..");
        Net net = new Net(4);
        for (int v = 0; v < 4; v++) {
            for (int s = 0; s < 4; s++) {
                net.gives(v, s, (v + s) % 4);
            }
        }
        for (int v = 0; v < 4; v++) {
            for (int s = 0; s < 4; s++) {
                due("slot", net.slot(v + 1, s), (v + s) % 4 + 1);
            }
        }
        net.gives(2, 1, 0);
        net.slots(3, 3, 1, 1, 2);
        net.slots(2, 2, 3, 4, 1);
        due("no output", net.count(2, OUTPUTS), 0);
        due("no call", net.inbox(0) + net.inbox(2), 0);
    }

    private static void giveCounts() {
        sentence("promise 4: if w is another vat, x of that root for v and c of it at v grow by 1");
        Net net = new Net(3);
        for (int i = 1; i <= 3; i++) {
            net.gives(0, 1, 2);
            due("x", net.exported(3, 0), i);
            due("c", net.imported(0, 3), i);
            due("imports", net.count(0, IMPORTS), 1);
        }
        due("x for others", net.exported(3, 1) + net.exported(3, 2), 0);
        due("c at others", net.imported(1, 3) + net.imported(2, 3), 0);
        due("the other way", net.exported(1, 2) + net.imported(2, 1), 0);
        net.gives(0, 1, 1);
        due("what it had before keeps its x", net.exported(3, 0), 3);
        due("and its c", net.imported(0, 3), 3);
        due("c of the new one", net.imported(0, 2), 1);
    }

    private static void giveOwn() {
        sentence("promise 4: if w is another vat (not for its own root)");
        Net net = new Net(2);
        net.gives(1, 2, 1);
        due("slot", net.slot(2, 2), 2);
        due("x", net.exported(2, 1) + net.exported(2, 0), 0);
        due("c", net.imported(1, 2) + net.imported(0, 2), 0);
        due("imports", net.count(1, IMPORTS), 0);
    }

    private static void giveWithoutMessage() {
        sentence("promise 4: (no message is sent for that)");
        Net net = new Net(3);
        net.gives(0, 0, 1);
        net.gives(0, 0, 2);
        net.gives(0, 0, 0);
        for (int a = 0; a < 3; a++) {
            for (int b = 0; b < 3; b++) {
                due("in flight", net.flying(a, b), 0);
            }
        }
    }

    private static void giveRefused() {
        sentence("promise 4: False if there is no such vat or slot");
        for (int size = 2; size <= 4; size++) {
            Net net = new Net(size);
            for (int w : noVat(size)) {
                due("to vat " + w, net.give(w, 0, 0), false);
                due("the root of vat " + w, net.give(0, 0, w), false);
                due("both", net.give(w, 0, w), false);
            }
            for (int s : NO_SLOT) {
                due("slot " + s, net.give(0, s, 1), false);
            }
        }
    }

    private static void poke() {
        sentence("promise 5: A call of the root of v with this value, argument none and no answer");
        Net net = new Net(3);
        net.program(2, OUT, 0, PUT, 1);
        int[] values = {MIN, -1, 0, 1, MAX};
        for (int value : values) {
            net.gives(2, 1, 2);
            due("poke", net.poke(2, value), true);
            due("inbox", net.inbox(2), 1);
            net.turns(2, 3);
            due("value", net.output(2, 0), value);
            due("argument", net.slot(3, 1), 0);
        }
        due("no promise", net.home(101), -1);
        due("other inboxes", net.inbox(0) + net.inbox(1), 0);
    }

    private static void pokeRefused() {
        sentence("promise 5: false if there is no such vat");
        for (int size = 2; size <= 4; size++) {
            Net net = new Net(size);
            for (int v : noVat(size)) {
                due("vat " + v, net.poke(v, 0), false);
            }
            due("the last vat", net.poke(size - 1, 0), true);
        }
    }

    private static void pokeFull() {
        sentence("promise 5: false if .. 20 calls or more are in its inbox");
        Net net = new Net(2);
        for (int i = 1; i <= 22; i++) {
            due("poke " + i, net.poke(1, i), i <= 20);
            due("inbox", net.inbox(1), Math.min(i, 20));
        }
        due("another vat", net.poke(0, 1), true);
        net.turns(1, 2);
        due("with 19", net.poke(1, 1), true);
        due("with 20", net.poke(1, 1), false);
        net.gives(0, 0, 1);
        net.program(0, SEND, 0, SEND, 0, SEND, 0);
        net.turns(0, 1);
        net.deliverAll(0, 1, CALL);
        due("inbox", net.inbox(1), 23);
        due("with 23", net.poke(1, 1), false);
        for (int i = 22; i >= 20; i--) {
            net.turns(1, 2);
            due("with " + i, net.poke(1, 1), false);
        }
        net.turns(1, 2);
        due("with 19", net.poke(1, 1), true);
    }

    private static void turn() {
        sentence("promise 6: the object that was called");
        Net net = Net.knownByFirst(2);
        net.runs(0, NEW, 5, PUT, 1, NEW, 6, PUT, 2, SEND, 2, SEND, 1, SEND, 0);
        net.pokes(0, 0);
        net.turns(0, 4, 3, 1);
        net.delivers(0, 1, CALL);
        net.turns(1, 2);
    }

    private static void turnRefused() {
        sentence("promise 6: NONE if there is no such vat or its inbox is empty");
        for (int size = 2; size <= 4; size++) {
            Net net = new Net(size);
            net.pokes(0, 1);
            for (int v : noVat(size)) {
                due("vat " + v, net.turn(v), -1);
            }
            due("an empty inbox", net.turn(1), -1);
            net.turns(0, 1);
            due("an inbox that is empty again", net.turn(0), -1);
        }
    }

    private static void deliver() {
        sentence("promise 7: Delivers the oldest message from a to b: its kind");
        Net net = Net.knownByFirst(3);
        net.runs(0, SELF, 0, SEND, 0, PUT, 2, GET, 1, SEND, 2);
        net.delivers(0, 1, CALL);
        net.turns(1, 2);
        net.delivers(0, 1, CALL);
        net.delivers(0, 2, GIFT);
        net.delivers(1, 2, REDEEM);
        net.delivers(1, 0, CALL);
        net.program(0);
        net.turns(0, 1);
        net.delivers(0, 1, RESOLVE);
        net.gives(0, 0, 0);
        net.sweeps(0, 0);
        net.delivers(0, 1, RELEASE);
    }

    private static void deliverNone() {
        sentence("promise 7: 0 if there is none");
        Net net = Net.knownByFirst(3);
        net.runs(0, SEND, 0);
        due("from 1 to 0", net.deliver(1, 0), 0);
        due("from 0 to 2", net.deliver(0, 2), 0);
        due("from 2 to 1", net.deliver(2, 1), 0);
        net.delivers(0, 1, CALL);
        due("when it was delivered", net.deliver(0, 1), 0);
        due("inbox", net.inbox(1), 1);
    }

    private static void deliverRefused() {
        sentence("promise 7: 0 if .. a and b are the same or one is no vat");
        for (int size = 2; size <= 4; size++) {
            Net net = Net.knownByFirst(size);
            net.runs(0, SEND, 0);
            for (int v = 0; v < size; v++) {
                due("the same", net.deliver(v, v), 0);
            }
            for (int w : noVat(size)) {
                due("from " + w, net.deliver(w, 0), 0);
                due("to " + w, net.deliver(0, w), 0);
                due("both", net.deliver(w, w), 0);
            }
            due("in flight", net.flying(0, 1), 1);
        }
    }

    private static void sweep() {
        sentence("promise 8: how many entities (at home at v) were freed");
        Net net = Net.knownByFirst(2);
        net.gives(0, 1, 0);
        net.runs(0, NEW, 7, NEW, 7, NEW, 7, SEND, 1, SEND, 1, SEND, 0);
        net.program(0, NIL, 0);
        net.turns(0, 1, 1);
        due("two promises here, one elsewhere", net.count(0, RESOLVED) + net.count(1, OPEN), 3);
        net.sweeps(0, 4);
        due("102 is an argument in flight", net.home(102), 0);
        net.sweeps(0, 0);
        net.sweeps(1, 0);
    }

    private static void sweepRefused() {
        sentence("promise 8: NONE if there is no such vat");
        for (int size = 2; size <= 4; size++) {
            Net net = new Net(size);
            for (int v : noVat(size)) {
                due("vat " + v, net.sweep(v), -1);
            }
            due("the last vat", net.sweep(size - 1), 0);
        }
    }

    private static void flying() {
        sentence("promise 9: How many messages from a to b were not delivered yet");
        Net net = Net.knownByFirst(3);
        net.program(0, SEND, 0, SEND, 0, GET, 1, SEND, 0);
        net.run(0, 0);
        due("from 0 to 1", net.flying(0, 1), 3);
        due("from 0 to 2", net.flying(0, 2), 1);
        due("others", net.flying(1, 0) + net.flying(2, 0) + net.flying(1, 2), 0);
        for (int i = 2; i >= 0; i--) {
            net.delivers(0, 1, CALL);
            due("from 0 to 1", net.flying(0, 1), i);
        }
        due("from 1 to 2", net.flying(1, 2), 1);
        for (int v = 0; v < 3; v++) {
            due("to itself", net.flying(v, v), 0);
        }
    }

    private static void flyingRefused() {
        sentence("promise 9: 0 if one is no vat");
        for (int size = 2; size <= 4; size++) {
            Net net = Net.knownByFirst(size);
            net.runs(0, SEND, 0);
            for (int w : noVat(size)) {
                due("from " + w, net.flying(w, 1), 0);
                due("to " + w, net.flying(0, w), 0);
                due("both", net.flying(w, w), 0);
            }
        }
    }

    private static void inbox() {
        sentence("promise 10: How many calls are in the inbox of v");
        Net net = Net.knownByFirst(2);
        for (int i = 1; i <= 5; i++) {
            net.pokes(0, 0);
            due("after a poke", net.inbox(0), i);
        }
        net.program(0, SEND, 0, PUT, 1, SEND, 1);
        net.turns(0, 1);
        due("after a turn", net.inbox(0), 4);
        due("what flies is not in it", net.inbox(1), 0);
        net.delivers(0, 1, CALL);
        due("what was delivered is", net.inbox(1), 1);
        net.delivers(0, 1, CALL);
        due("what waits at a promise is not", net.inbox(1), 1);
    }

    private static void inboxRefused() {
        sentence("promise 10: 0 if there is no such vat");
        for (int size = 2; size <= 4; size++) {
            Net net = new Net(size);
            for (int v = 0; v < size; v++) {
                net.pokes(v, 0);
                due("vat " + v, net.inbox(v), 1);
            }
            for (int v : noVat(size)) {
                due("vat " + v, net.inbox(v), 0);
            }
        }
    }

    /**
     * In vat 0 object 5, seven imports and two outputs; in vat 1 four promises, of which one is
     * resolved to object 5; a gift waits at vat 2, two redeems at vat 3.
     */
    private static Net busyNet() {
        Net net = Net.knownByFirst(4);
        net.program(0, NEW, 7, SEND, 0, PUT, 3, OUT, 0);
        net.run(0, -3);
        net.delivers(0, 1, CALL);
        net.turns(1, 2);
        net.runs(0, OUT, 0, GET, 1, SEND, 0, GET, 2, SEND, 0, GET, 2, SEND, 0);
        net.delivers(0, 1, CALL, CALL, CALL);
        net.delivers(1, 3, REDEEM, REDEEM);
        net.delivers(0, 2, GIFT);
        return net;
    }

    private static void countKinds() {
        sentence("promise 11: How many objects (kind 0), .. outputs v has put out (7)");
        Net net = busyNet();
        net.counts(0, 2, 0, 0, 7, 0, 0, 0, 2);
        net.counts(1, 1, 3, 1, 3, 0, 0, 0, 0);
        net.counts(2, 1, 0, 0, 0, 1, 0, 0, 0);
        net.counts(3, 1, 0, 0, 0, 0, 2, 0, 0);
        net.runs(0, SEND, 0, PUT, 3, SEND, 3, SEND, 3, SEND, 3);
        net.deliverAll(0, 1, CALL);
        net.counts(1, 1, 7, 1, 3, 0, 0, 3, 0);
    }

    private static void countFreed() {
        sentence("promise 11: objects .., open promises .., resolved promises .. are not freed");
        Net net = new Net(2);
        net.gives(0, 0, 0);
        net.runs(0, NEW, 7, NIL, 0, SEND, 0);
        net.counts(0, 2, 1, 0);
        net.sweeps(0, 2);
        net.counts(0, 1, 0, 0);
        net.program(0, NIL, 0);
        net.turns(0, 1);
        net.counts(0, 1, 0, 0);
        net.runs(0, NIL, 0, SEND, 0);
        net.program(0);
        net.turns(0, 1);
        net.counts(0, 1, 0, 1);
        net.sweeps(0, 1);
        net.counts(0, 1, 0, 0);
    }

    private static void countImports() {
        sentence("promise 11: how many imports v has (3)");
        Net net = new Net(3);
        net.gives(0, 0, 1);
        net.gives(0, 1, 1);
        net.gives(0, 2, 2);
        due("each once", net.count(0, IMPORTS), 2);
        due("not those of others", net.count(1, IMPORTS) + net.count(2, IMPORTS), 0);
        net.runs(0, SEND, 0);
        due("promises too", net.count(0, IMPORTS), 3);
    }

    private static void countOutputs() {
        sentence("promise 11: how many outputs v has put out (7)");
        Net net = new Net(2);
        net.program(0, OUT, 0, OUT, 0, OUT, 0, OUT, 0, OUT, 0, OUT, 0, OUT, 0, OUT, 0);
        for (int i = 1; i <= 40; i++) {
            net.run(0, i);
            due("outputs", net.count(0, OUTPUTS), 8 * i);
        }
    }

    private static void countRefused() {
        sentence("promise 11: 0 for another kind or no vat");
        Net net = busyNet();
        for (int kind : NO_KIND) {
            for (int v = 0; v < 4; v++) {
                due("kind " + kind, net.count(v, kind), 0);
            }
        }
        for (int v : noVat(4)) {
            net.counts(v, 0, 0, 0, 0, 0, 0, 0, 0);
        }
    }

    private static void imported() {
        sentence("promise 12: c of entity e at vat v; 0 if v has no import of it");
        Net net = busyNet();
        due("a root", net.imported(0, 2), 1);
        due("a promise", net.imported(0, 104), 1);
        due("an object", net.imported(1, 5), 1);
        due("one that came twice", net.imported(1, 4), 2);
        due("at home", net.imported(0, 5) + net.imported(1, 104) + net.imported(2, 3), 0);
        due("not there", net.imported(2, 5) + net.imported(3, 104) + net.imported(2, 4), 0);
    }

    private static void importedRefused() {
        sentence("promise 12: 0 if v has no import of it: no such vat or entity");
        Net net = busyNet();
        for (int e : NO_ENTITY) {
            for (int v = 0; v < 4; v++) {
                due("entity " + e, net.imported(v, e), 0);
            }
        }
        for (int v : noVat(4)) {
            due("vat " + v, net.imported(v, 2) + net.imported(v, 101), 0);
        }
    }

    private static void exported() {
        sentence("promise 13: x of entity e for vat b");
        Net net = busyNet();
        due("a root", net.exported(2, 0), 1);
        due("an object", net.exported(5, 1), 1);
        due("a promise", net.exported(104, 0), 1);
        due("not for others", net.exported(5, 2) + net.exported(5, 3) + net.exported(104, 3), 0);
        due("no pair yet", net.exported(4, 1), 0);
        net.delivers(0, 3, GIFT, GIFT);
        due("two pairs", net.exported(4, 1), 2);
    }

    private static void exportedRefused() {
        sentence("promise 13: 0 if there is none such, e is freed or was not made, or b is its home");
        Net net = busyNet();
        for (int e : NO_ENTITY) {
            for (int b = 0; b < 4; b++) {
                due("entity " + e, net.exported(e, b), 0);
            }
        }
        for (int b : noVat(4)) {
            due("vat " + b, net.exported(2, b) + net.exported(101, b), 0);
        }
        due("its home", net.exported(2, 1) + net.exported(5, 0) + net.exported(104, 1), 0);
    }

    /** In vat 0 object 3 with a number and a slot and promise 101 resolved to it, both freed. */
    private static Net freedNet() {
        Net net = new Net(2);
        net.gives(0, 0, 0);
        net.program(0, SELF, 0, NEW, 7, SEND, 0);
        net.run(0, 8);
        net.program(0);
        net.turns(0, 1);
        due("home", net.home(3), 0);
        due("home", net.home(101), 0);
        due("slot", net.slot(3, 0), 1);
        due("number", net.number(3), 8);
        due("resolved", net.resolved(101), 3);
        net.sweeps(0, 2);
        return net;
    }

    private static void exportedFreed() {
        sentence("promise 13: 0 if .. e is freed");
        Net net = Net.knownByFirst(3);
        net.runs(0, SEND, 1);
        due("x", net.exported(101, 0), 1);
        net.delivers(0, 2, CALL);
        net.turns(2, 3);
        net.sweeps(0, 0);
        net.delivers(0, 2, RELEASE);
        net.sweeps(2, 1);
        due("x of a freed one", net.exported(101, 0) + net.exported(101, 1), 0);
        net = freedNet();
        for (int b = 0; b < 2; b++) {
            due("x of freed ones", net.exported(3, b) + net.exported(101, b), 0);
        }
    }

    private static void home() {
        sentence("promise 14: The vat at which entity e is at home; NONE if it was not made ..");
        Net net = busyNet();
        for (int v = 0; v < 4; v++) {
            due("root", net.home(v + 1), v);
            due("promise", net.home(101 + v), 1);
        }
        due("object", net.home(5), 0);
        for (int e : NO_ENTITY) {
            due("entity " + e, net.home(e), -1);
        }
    }

    private static void homeFreed() {
        sentence("promise 14: NONE if it .. is freed");
        Net net = freedNet();
        due("an object", net.home(3), -1);
        due("a promise", net.home(101), -1);
    }

    private static void slot() {
        sentence("promise 15: What slot s of object e holds; 0 if there is no such object or slot");
        Net net = busyNet();
        net.slots(1, 2, 3, 4, 101);
        net.slots(2, 0, 0, 0, 0);
        for (int e : NO_ENTITY) {
            net.slots(e, 0, 0, 0, 0);
        }
        for (int e = 101; e <= 104; e++) {
            due("of a promise", net.slot(e, 0), 0);
        }
        for (int s : NO_SLOT) {
            for (int e = 1; e <= 5; e++) {
                due("slot " + s, net.slot(e, s), 0);
            }
        }
    }

    private static void slotFreed() {
        sentence("promise 15: 0 if .. it is freed");
        Net net = freedNet();
        net.slots(3, 0, 0, 0, 0);
    }

    private static void number() {
        sentence("promise 16: The number of object e; 0 if there is no such object");
        Net net = busyNet();
        due("of an object", net.number(5), -3);
        due("of roots", net.number(1) + net.number(4), 0);
        for (int e : NO_ENTITY) {
            due("entity " + e, net.number(e), 0);
        }
        for (int e = 101; e <= 104; e++) {
            due("of a promise", net.number(e), 0);
        }
    }

    private static void numberFreed() {
        sentence("promise 16: 0 if .. it is freed");
        Net net = freedNet();
        due("number", net.number(3), 0);
    }

    private static void resolved() {
        sentence("promise 17: What promise e is resolved to (0 for none)");
        Net net = new Net(2);
        net.gives(0, 0, 0);
        net.gives(0, 1, 1);
        net.runs(0, SEND, 0, SEND, 0, GET, 1, SEND, 0, SELF, 0, SEND, 0);
        net.program(0);
        net.turns(0, 1, 1, 1, 1);
        due("none", net.resolved(101), 0);
        due("a promise", net.resolved(102), 101);
        due("one of another vat", net.resolved(103), 2);
        due("an object", net.resolved(104), 1);
    }

    private static void resolvedRefused() {
        sentence("promise 17: NONE if it is open, was not made or is freed");
        Net net = busyNet();
        due("a resolved one", net.resolved(101), 5);
        for (int e = 102; e <= 104; e++) {
            due("open", net.resolved(e), -1);
        }
        for (int e : NO_ENTITY) {
            due("entity " + e, net.resolved(e), -1);
        }
        for (int e = 1; e <= 5; e++) {
            due("an object", net.resolved(e), -1);
        }
        net = freedNet();
        due("freed", net.resolved(101), -1);
    }

    private static void output() {
        sentence("promise 18: the k-th before the latest (k = 0: the latest; k up to 9)");
        Net net = new Net(2);
        net.program(1, OUT, 0);
        for (int i = 1; i <= 25; i++) {
            net.run(1, 100 + i);
            for (int k = 0; k <= 9; k++) {
                due("output " + k + " of " + i, net.output(1, k), k < i ? 100 + i - k : 0);
            }
        }
    }

    private static void outputRefused() {
        sentence("promise 18: 0 if there is none");
        Net net = new Net(2);
        for (int k = -1; k <= 10; k++) {
            due("before any", net.output(0, k), 0);
        }
        net.program(0, OUT, 0);
        int[] values = {MIN, MAX, 3};
        for (int value : values) {
            net.run(0, value);
        }
        int[] wants = {3, MAX, MIN, 0, 0, 0, 0, 0, 0, 0};
        for (int k = 0; k <= 9; k++) {
            due("output " + k, net.output(0, k), wants[k]);
        }
        for (int i = 0; i < 12; i++) {
            net.run(0, 50 + i);
        }
        int[] wrong = {MIN, -2, -1, 10, 11, 14, 15, MAX};
        for (int k : wrong) {
            due("output " + k, net.output(0, k), 0);
        }
        for (int v : noVat(2)) {
            due("vat " + v, net.output(v, 0), 0);
        }
        due("of another vat", net.output(1, 0), 0);
    }

    private static void promises1To4() {
        sizesOfTheNet();
        nothingAtFirst();
        programsAreEmpty();
        netsApart();
        codeAtTheEnd();
        codeOps();
        codePrograms();
        codeEight();
        codeSlots();
        codeNewAndSkip();
        codeAnyX();
        clear();
        clearRefused();
        give();
        giveCounts();
        giveOwn();
        giveWithoutMessage();
        giveRefused();
    }

    private static void promises5To10() {
        poke();
        pokeRefused();
        pokeFull();
        turn();
        turnRefused();
        deliver();
        deliverNone();
        deliverRefused();
        sweep();
        sweepRefused();
        flying();
        flyingRefused();
        inbox();
        inboxRefused();
    }

    private static void promises11To18() {
        countKinds();
        countFreed();
        countImports();
        countOutputs();
        countRefused();
        imported();
        importedRefused();
        exported();
        exportedRefused();
        exportedFreed();
        home();
        homeFreed();
        slot();
        slotFreed();
        number();
        numberFreed();
        resolved();
        resolvedRefused();
        output();
        outputRefused();
    }

    public static void main(String[] args) {
        promises1To4();
        promises5To10();
        promises11To18();
        Check.end();
    }
}
