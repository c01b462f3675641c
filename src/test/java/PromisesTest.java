/** The document's promises one after the other: ordinary inputs, edges and wrong inputs. */
public final class PromisesTest extends Sentences {
    private static void newNet(int asked, int size) {
        Net net = new Net(asked);
        for (int v = 0; v < 5; v++) {
            boolean there = v < size;
            due("home of root", net.home(v + 1), there ? v : -1);
            due("number of root", net.number(v + 1), 0);
            for (int s = 0; s < 4; s++) {
                due("slot of root", net.slot(v + 1, s), 0);
                due("in flight", net.flying(v, s), 0);
            }
            net.counts(v, there ? 1 : 0, 0, 0, 0, 0, 0, 0, 0);
            due("inbox", net.inbox(v), 0);
            due("sweep", net.sweep(v), there ? 0 : -1);
            due("poke", net.poke(v, 3), there);
            due("turn", net.turn(v), there ? v + 1 : -1);
        }
        for (int v = 0; v < size; v++) {
            due("outputs of empty programs", net.count(v, 7), 0);
            net.program(v, SET, 10 + v, OUT, 0);
            due("poke", net.poke(v, 3), true);
            due("turn", net.turn(v), v + 1);
            due("output of program " + v, net.output(v, 0), 10 + v);
        }
        due("first promise", net.home(101), -1);
    }

    private static void promise1() {
        sentence("promise 1");
        int[] asked = {MIN, -1, 0, 1, 2, 3, 4, 5, MAX};
        int[] sizes = {2, 2, 2, 2, 2, 3, 4, 4, 4};
        for (int i = 0; i < asked.length; i++) {
            newNet(asked[i], sizes[i]);
        }
        Net one = new Net(2);
        Net other = new Net(2);
        one.gives(0, 0, 1);
        due("poke", one.poke(0, 0), true);
        one.program(0, OUT, 0);
        due("slot of the other net", other.slot(1, 0), 0);
        due("inbox of the other net", other.inbox(0), 0);
        other.run(0, 4);
        due("outputs of the other net", other.count(0, 7), 0);
    }

    private static void codeEdges(int op, int least, int most) {
        Net net = new Net(2);
        due("least x of " + op, net.code(0, op, least), true);
        due("most x of " + op, net.code(7, op, most), true);
        if (least != MIN) {
            due("x below for " + op, net.code(0, op, least - 1), false);
            due("least int for " + op, net.code(0, op, MIN), false);
            due("x above for " + op, net.code(0, op, most + 1), false);
            due("most int for " + op, net.code(0, op, MAX), false);
        }
    }

    private static void promise2() {
        sentence("promise 2");
        int[] ops = {SET, ADD, KEEP, PUT, GET, SELF, NEW, SEND, SKIP, OUT, NIL};
        for (int op : ops) {
            boolean slots = op == PUT || op == GET || op == SEND;
            boolean eight = op == NEW || op == SKIP;
            codeEdges(op, slots || eight ? 0 : MIN, slots ? 3 : eight ? 7 : MAX);
        }
        Net net = new Net(2);
        int[] wrong = {MIN, -1, 8, MAX};
        for (int w : wrong) {
            due("no program " + w, net.code(w, OUT, 0), false);
            due("no instruction", net.code(0, w == 8 ? 11 : w, 0), false);
        }
        for (int i = 0; i < 4; i++) {
            due("SET", net.code(0, SET, i - 1), true);
            due("refused", net.code(0, PUT, 4), false);
            due("OUT", net.code(0, OUT, 77), true);
        }
        due("ninth", net.code(0, OUT, 0), false);
        due("in another program", net.code(1, OUT, 0), true);
        net.run(0, 5);
        due("outputs", net.count(0, 7), 4);
        for (int k = 0; k < 4; k++) {
            due("output " + k, net.output(0, k), 2 - k);
        }
    }

    private static void promise3() {
        sentence("promise 3");
        Net net = new Net(2);
        net.program(0, OUT, 0);
        net.program(1, OUT, 0);
        int[] wrong = {MIN, -1, 8, MAX};
        for (int w : wrong) {
            due("no program " + w, net.clear(w), false);
        }
        due("empty one", net.clear(7), true);
        net.run(0, 1);
        due("not cleared by refusals", net.count(0, 7), 1);
        due("poke", net.poke(0, 2), true);
        due("clear", net.clear(0), true);
        due("turn", net.turn(0), 1);
        due("a later turn finds it empty", net.count(0, 7), 1);
        net.run(1, 3);
        due("another program", net.output(1, 0), 3);
        for (int i = 0; i < 8; i++) {
            due("room again", net.code(0, OUT, 0), true);
        }
        due("full again", net.code(0, OUT, 0), false);
    }

    private static void promise4() {
        sentence("promise 4");
        Net net = new Net(3);
        int[] noVat = {MIN, -1, 3, MAX};
        int[] noSlot = {MIN, -1, 4, MAX};
        for (int i = 0; i < 4; i++) {
            due("no giver", net.give(noVat[i], 0, 1), false);
            due("no given", net.give(0, 0, noVat[i]), false);
            due("no slot", net.give(0, noSlot[i], 1), false);
        }
        due("nothing changed", net.imported(0, 2) + net.exported(2, 0) + net.slot(1, 0), 0);
        net.gives(0, 3, 1);
        due("slot", net.slot(1, 3), 2);
        due("slot of the given", net.slot(2, 3), 0);
        due("again", net.give(0, 0, 1), true);
        due("in place of it", net.give(0, 3, 2), true);
        due("slot", net.slot(1, 3), 3);
        due("c", net.imported(0, 2), 2);
        due("x", net.exported(2, 0), 2);
        due("x for another", net.exported(2, 2), 0);
        due("c of the second", net.imported(0, 3), 1);
        due("no message", net.flying(0, 1) + net.flying(1, 0) + net.flying(0, 2), 0);
        due("own root", net.give(0, 3, 0), true);
        due("slot", net.slot(1, 3), 1);
        due("no c at home", net.imported(0, 1), 0);
        due("no x for home", net.exported(1, 0), 0);
        due("sweep", net.sweep(0), 0);
        due("the replaced one is released", net.flying(0, 2), 1);
        due("the kept one is not", net.flying(0, 1), 0);
    }

    private static void promise5() {
        sentence("promise 5");
        Net net = new Net(2);
        int[] wrong = {MIN, -1, 2, MAX};
        for (int w : wrong) {
            due("no vat " + w, net.poke(w, 1), false);
        }
        net.program(0, OUT, 0, PUT, 0);
        net.gives(0, 0, 1);
        for (int i = 0; i < 20; i++) {
            due("poke", net.poke(0, i == 0 ? MIN : i == 1 ? MAX : i), true);
        }
        due("at 20", net.poke(0, 99), false);
        due("inbox", net.inbox(0), 20);
        due("another vat", net.poke(1, 1), true);
        due("turn", net.turn(0), 1);
        due("its argument is none", net.slot(1, 0), 0);
        due("value", net.output(0, 0), MIN);
        due("poke at 19", net.poke(0, 99), true);
        due("turn", net.turn(0), 1);
        due("value", net.output(0, 0), MAX);
        for (int i = 2; i < 20; i++) {
            due("turn", net.turn(0), 1);
            due("in order", net.output(0, 0), i);
        }
        due("turn", net.turn(0), 1);
        due("last", net.output(0, 0), 99);
        due("no promise for a poke", net.count(0, 1) + net.count(0, 2), 0);

        net.program(0, SEND, 0, SEND, 0, SEND, 0, SEND, 0, SEND, 0, SEND, 0, SEND, 0, SEND, 0);
        net.gives(0, 0, 0);
        for (int i = 0; i < 20; i++) {
            due("poke", net.poke(0, i), true);
        }
        due("turn", net.turn(0), 1);
        due("sends have no such limit", net.inbox(0), 27);
        due("above 20", net.poke(0, 1), false);
    }

    private static void numbersAndSlots() {
        sentence("promise 6, values");
        Net net = new Net(2);
        net.program(0, OUT, 0, SET, MAX, KEEP, 5, SET, 1, ADD, 9, OUT, 0, KEEP, 0);
        net.run(0, -7);
        due("V is the value", net.output(0, 1), -7);
        due("ADD wraps", net.output(0, 0), MIN);
        due("KEEP", net.number(1), MIN);
        due("other numbers", net.number(2), 0);
        for (int s = 0; s < 4; s++) {
            net.program(0, SELF, 0, PUT, s, NIL, 0, PUT, (s + 1) % 4, GET, s, PUT, (s + 2) % 4);
            net.run(0, 0);
            due("PUT", net.slot(1, s), 1);
            due("NONE and PUT", net.slot(1, (s + 1) % 4), 0);
            due("GET", net.slot(1, (s + 2) % 4), 1);
        }
        net.program(0, SELF, 0, NIL, 0, PUT, 0, OUT, 0);
        net.run(0, 8);
        due("NONE", net.slot(1, 0), 0);
        due("references leave V", net.output(0, 0), 8);
    }

    private static void skips() {
        sentence("promise 6, SKIP");
        Net net = new Net(2);
        net.program(0, SKIP, 2, SET, 5, OUT, 0, OUT, 0);
        net.run(0, 0);
        due("V is 0", net.count(0, 7), 1);
        due("V is 0", net.output(0, 0), 0);
        net.run(0, -1);
        due("V is not 0", net.count(0, 7), 3);
        due("V is not 0", net.output(0, 1), 5);
        net.program(0, SKIP, 7, OUT, 0);
        net.run(0, 0);
        due("past the end", net.count(0, 7), 3);
        net.program(0, OUT, 0);
        net.run(0, 6);
        due("none left out in the next turn", net.output(0, 0), 6);
        net.program(0, SKIP, 0, OUT, 0);
        net.run(0, 0);
        due("SKIP 0", net.count(0, 7), 5);
        net.program(0, SKIP, 1, SKIP, 2, OUT, 0, SKIP, 1, OUT, 0, OUT, 0);
        net.run(0, 0);
        due("a SKIP that is left out", net.count(0, 7), 7);
    }

    private static void newObjects() {
        sentence("promise 6, NEW");
        Net net = new Net(3);
        net.program(1, SELF, 0, NEW, 5, PUT, 2);
        net.run(1, 9);
        due("R", net.slot(2, 2), 4);
        due("home", net.home(4), 1);
        due("number", net.number(4), 9);
        due("slot 0", net.slot(4, 0), 2);
        for (int s = 1; s < 4; s++) {
            due("other slots", net.slot(4, s), 0);
        }
        net.program(1, SEND, 2);
        net.program(5, ADD, 0, OUT, 0);
        net.run(1, 30);
        due("its turn", net.turn(1), 4);
        due("its program", net.output(1, 0), 39);
        net.program(0, NEW, 5, NEW, 5, NEW, 5, NEW, 5, NEW, 5, NEW, 5, NEW, 5, PUT, 1);
        for (int i = 0; i < 8; i++) {
            net.run(0, i);
        }
        due("60 were made", net.slot(1, 1), 60);
        due("count", net.count(0, 0), 57);
        net.run(0, 8);
        due("no more", net.slot(1, 1), 0);
        due("no object 61", net.home(61), -1);
        due("count", net.count(0, 0), 57);
        due("freed", net.sweep(0), 56);
        net.run(0, 9);
        due("numbers are not used again", net.slot(1, 1), 0);
        due("count", net.count(0, 0), 1);
    }

    private static void sendsAtHome() {
        sentence("promise 6, SEND at home");
        Net net = new Net(2);
        net.program(0, SELF, 0, SEND, 2, PUT, 1);
        net.run(0, 3);
        due("none in the slot", net.slot(1, 1), 0);
        due("none was made", net.home(101), -1);
        net.gives(0, 2, 0);
        net.program(0, SELF, 0, SEND, 2, PUT, 1, SET, 4, OUT, 0);
        net.run(0, 3);
        due("R is the promise", net.slot(1, 1), 101);
        due("home", net.home(101), 0);
        due("x", net.exported(101, 1), 0);
        due("c", net.imported(0, 101) + net.imported(1, 101), 0);
        due("nothing flies", net.flying(0, 1), 0);
        due("inbox", net.inbox(0), 1);
        due("open", net.resolved(101), -1);
        net.program(0, OUT, 0, PUT, 3);
        due("turn", net.turn(0), 1);
        due("value", net.output(0, 0), 3);
        due("argument", net.slot(1, 3), 1);
        due("answer", net.resolved(101), 1);
    }

    private static void sendLimit() {
        sentence("promise 6, 100 promises");
        Net net = new Net(2);
        net.gives(0, 0, 0);
        net.program(0, SEND, 0, SEND, 0, SEND, 0, SEND, 0, SEND, 0, SEND, 0, SEND, 0, PUT, 1);
        due("poke", net.poke(0, 1), true);
        for (int i = 1; i <= 14; i++) {
            due("turn", net.turn(0), 1);
            due("latest", net.slot(1, 1), 100 + 7 * i);
        }
        due("inbox", net.inbox(0), 85);
        due("turn", net.turn(0), 1);
        due("R becomes none", net.slot(1, 1), 0);
        due("the last two were sent", net.inbox(0), 86);
        due("the last", net.home(200), 0);
        due("no more", net.home(201), -1);
    }

    private static void sendsAway() {
        sentence("promise 6, SEND to another vat");
        Net net = new Net(2);
        net.gives(0, 0, 1);
        net.program(0, NEW, 7, SEND, 0, PUT, 1, SEND, 0);
        net.run(0, 6);
        due("flying", net.flying(0, 1), 2);
        due("promise", net.slot(1, 1), 101);
        due("at home with the target", net.home(101), 1);
        due("x", net.exported(101, 0), 1);
        due("c", net.imported(0, 101), 1);
        due("x of the argument", net.exported(3, 1), 1);
        due("c of the argument before", net.imported(1, 3), 0);
        net.program(1, PUT, 2, OUT, 0);
        due("deliver", net.deliver(0, 1), 1);
        due("c of the argument", net.imported(1, 3), 1);
        due("turn", net.turn(1), 2);
        due("argument", net.slot(2, 2), 3);
        due("value", net.output(1, 0), 6);
        due("answer", net.resolved(101), 3);
        due("deliver", net.deliver(0, 1), 1);
        due("turn", net.turn(1), 2);
        due("a promise of its own", net.slot(2, 2), 101);
        due("no c at home", net.imported(1, 101), 0);
        due("x as before", net.exported(101, 0), 1);
        due("answer", net.resolved(102), 101);
    }

    private static void promise6() {
        sentence("promise 6");
        Net net = new Net(2);
        int[] wrong = {MIN, -1, 2, MAX};
        due("poke", net.poke(0, 1), true);
        for (int w : wrong) {
            due("no vat " + w, net.turn(w), -1);
        }
        due("empty inbox", net.turn(1), -1);
        due("turn", net.turn(0), 1);
        due("empty again", net.turn(0), -1);
        numbersAndSlots();
        skips();
        newObjects();
        sendsAtHome();
        sendLimit();
        sendsAway();
    }

    private static void deliveredInOrder() {
        sentence("promise 7, order");
        Net net = new Net(3);
        net.gives(0, 0, 1);
        net.gives(0, 1, 2);
        net.gives(2, 0, 1);
        net.program(0, SEND, 0, SET, 2, SEND, 0, SEND, 1, SET, 3, NIL, 0, SEND, 0);
        net.program(1, OUT, 0);
        net.program(2, SEND, 0);
        net.run(0, 1);
        net.run(2, 10);
        due("from 0 to 1, with a gift", net.flying(0, 1), 4);
        due("from 0 to 2", net.flying(0, 2), 1);
        due("from 2 to 1", net.flying(2, 1), 1);
        int[] wrong = {MIN, -1, 3, MAX};
        for (int w : wrong) {
            due("no vat", net.deliver(w, 1) + net.deliver(0, w), 0);
        }
        due("to itself", net.deliver(0, 0) + net.deliver(1, 1), 0);
        due("none", net.deliver(1, 0), 0);
        due("none was delivered", net.flying(0, 1), 4);
        due("deliver", net.deliver(0, 1), 1);
        due("deliver", net.deliver(2, 1), 1);
        due("deliver", net.deliver(0, 1), 1);
        due("a gift between two calls", net.deliver(0, 1), 4);
        due("deliver", net.deliver(0, 1), 1);
        due("no more", net.deliver(0, 1), 0);
        int[] values = {1, 10, 2, 3};
        for (int value : values) {
            due("turn", net.turn(1), 2);
            due("in order", net.output(1, 0), value);
        }
        due("the other is still there", net.flying(0, 2), 1);
    }

    private static Net sentBack() {
        Net net = new Net(2);
        net.gives(0, 0, 1);
        net.program(0, SELF, 0, SEND, 0, PUT, 1);
        net.run(0, 0);
        due("deliver", net.deliver(0, 1), 1);
        due("turn", net.turn(1), 2);
        due("answer", net.resolved(101), 1);
        net.program(0, NEW, 7, SEND, 1, PUT, 2);
        net.run(0, 4);
        due("a call of the promise", net.deliver(0, 1), 1);
        due("is sent on", net.flying(1, 0), 1);
        due("does not stay", net.inbox(1) + net.count(1, 6), 0);
        return net;
    }

    private static void sentOnAndResolved() {
        sentence("promise 7, RESOLVE");
        Net net = sentBack();
        due("x of the argument for 1", net.exported(3, 1), 1);
        due("c of the argument at 1", net.imported(1, 3), 1);
        due("CALL", net.deliver(1, 0), 1);
        due("nothing at home", net.exported(3, 1), 1);
        due("c at home", net.imported(0, 3), 0);
        net.program(0, PUT, 3, NEW, 6);
        due("turn", net.turn(0), 1);
        due("the same argument", net.slot(1, 3), 3);
        due("open until told", net.resolved(102), -1);
        due("x of the answer", net.exported(4, 1), 1);
        due("c before", net.imported(1, 4), 0);
        due("flying", net.flying(0, 1), 1);
        due("RESOLVE", net.deliver(0, 1), 2);
        due("resolved", net.resolved(102), 4);
        due("c", net.imported(1, 4), 1);
        due("number", net.number(4), 4);
    }

    private static void resolveOfFreed() {
        sentence("promise 7, RESOLVE of a freed promise");
        Net net = sentBack();
        net.program(0, NIL, 0, PUT, 2, PUT, 1, NEW, 6);
        due("poke", net.poke(0, 0), true);
        due("CALL", net.deliver(1, 0), 1);
        due("turn", net.turn(0), 1);
        due("sweep", net.sweep(0), 1);
        due("RELEASE", net.deliver(0, 1), 3);
        due("RELEASE", net.deliver(0, 1), 3);
        due("both promises are freed", net.sweep(1), 2);
        due("turn", net.turn(0), 1);
        due("answer", net.deliver(0, 1), 2);
        due("freed", net.resolved(102), -1);
        due("freed", net.home(102), -1);
        due("the argument came all the same", net.imported(1, 5), 1);
        due("released", net.sweep(1), 0);
        due("both releases", net.flying(1, 0), 3);
    }

    private static void giftsAndRedeems() {
        sentence("promise 7, gifts");
        Net net = new Net(4);
        int[] givers = {0, 3};
        for (int v : givers) {
            net.gives(v, 0, 1);
            net.gives(v, 1, 2);
            net.program(v, GET, 1, SEND, 0);
            net.run(v, 0);
        }
        due("no x for the taker yet", net.exported(3, 1), 0);
        due("GIFT", net.deliver(0, 2), 4);
        net.counts(2, 1, 0, 0, 0, 1, 0);
        due("CALL", net.deliver(3, 1), 1);
        due("c", net.imported(1, 3), 1);
        due("REDEEM", net.deliver(1, 2), 5);
        net.counts(2, 1, 0, 0, 0, 1, 1);
        due("no pair of different givers", net.exported(3, 1), 0);
        due("GIFT", net.deliver(3, 2), 4);
        net.counts(2, 1, 0, 0, 0, 1, 0);
        due("a pair", net.exported(3, 1), 1);
        due("CALL", net.deliver(0, 1), 1);
        due("c", net.imported(1, 3), 2);
        due("REDEEM", net.deliver(1, 2), 5);
        net.counts(2, 1, 0, 0, 0, 0, 0);
        due("two pairs", net.exported(3, 1), 2);
        due("the givers keep theirs", net.exported(3, 0) + net.exported(3, 3), 2);
        for (int i = 0; i < 2; i++) {
            net.run(0, 0);
            due("CALL", net.deliver(0, 1), 1);
            due("REDEEM", net.deliver(1, 2), 5);
        }
        net.counts(2, 1, 0, 0, 0, 0, 2);
        due("x", net.exported(3, 1), 2);
        for (int i = 1; i <= 2; i++) {
            due("GIFT", net.deliver(0, 2), 4);
            due("x", net.exported(3, 1), 2 + i);
            due("redeems that wait", net.count(2, 5), 2 - i);
        }
        due("c", net.imported(1, 3), 4);
    }

    private static void promise7() {
        deliveredInOrder();
        sentOnAndResolved();
        resolveOfFreed();
        giftsAndRedeems();
        lostAtFullPromise();
        lostWhenSentOn();
        lostInOrder();
        rings();
    }

    private static void lostAtFullPromise() {
        sentence("a full promise");
        Net net = new Net(2);
        net.gives(0, 0, 1);
        net.program(0, SEND, 0, PUT, 1);
        net.run(0, 0);
        net.program(0, SEND, 1);
        for (int i = 0; i < 9; i++) {
            net.run(0, i);
        }
        net.deliverAll(0, 1, 1);
        due("eight wait", net.count(1, 6), 8);
        due("the eighth", net.resolved(109), -1);
        due("the ninth is lost", net.resolved(110), 0);
        net.program(1, OUT, 0, SELF, 0);
        due("turn", net.turn(1), 2);
        due("none waits", net.count(1, 6), 0);
        due("inbox", net.inbox(1), 8);
        for (int i = 0; i < 8; i++) {
            due("turn", net.turn(1), 2);
            due("in order", net.output(1, 0), i);
            due("answer", net.resolved(102 + i), 2);
        }
    }

    private static void lostWhenSentOn() {
        sentence("a promise that fills when calls are sent on");
        Net net = new Net(2);
        net.gives(0, 0, 1);
        net.program(0, SEND, 0, PUT, 1, SEND, 1, PUT, 2, SEND, 0, PUT, 3);
        net.run(0, 0);
        net.program(0, SEND, 2, SEND, 2, SEND, 2);
        net.run(0, 0);
        net.program(0, SEND, 3, SEND, 3, SEND, 3, SEND, 3, SEND, 3, SEND, 3, SEND, 3, SEND, 3);
        net.run(0, 0);
        net.deliverAll(0, 1, 1);
        due("waiting", net.count(1, 6), 12);
        due("inbox", net.inbox(1), 2);
        net.program(1, SELF, 0);
        due("turn", net.turn(1), 2);
        due("resolved to the root", net.resolved(101), 2);
        due("waiting", net.count(1, 6), 11);
        net.program(1);
        due("turn", net.turn(1), 2);
        due("resolved to a promise", net.resolved(103), 102);
        due("waiting", net.count(1, 6), 8);
        due("the fifth", net.resolved(111), -1);
        for (int p = 112; p <= 114; p++) {
            due("lost", net.resolved(p), 0);
        }
        due("turn", net.turn(1), 2);
        due("resolved to its argument", net.resolved(102), 101);
        due("all go through to the root", net.inbox(1), 8);
        due("waiting", net.count(1, 6), 0);
    }

    /** A promise of vat 0, in slot 0 of its root, that is resolved to what is in another slot. */
    private static void forward(Net net, int s) {
        net.program(0, SEND, 1, PUT, 0);
        net.run(0, 0);
        net.program(0, GET, s);
        due("turn", net.turn(0), 1);
        net.program(0, SEND, 0);
        net.run(0, 0);
    }

    private static void lostInOrder() {
        sentence("the order of losses");
        Net net = new Net(2);
        net.gives(0, 0, 1);
        net.gives(0, 1, 0);
        net.program(0, SEND, 0, PUT, 2);
        net.run(0, 0);
        net.program(0, SEND, 2, PUT, 3);
        net.run(0, 0);
        forward(net, 2);
        due("resolved to the promise of another vat", net.resolved(103), 101);
        forward(net, 3);
        due("resolved to the promise of another vat", net.resolved(105), 102);
        net.deliverAll(0, 1, 1);
        due("waiting", net.count(1, 6), 3);
        due("turn", net.turn(1), 2);
        due("none", net.resolved(101), 0);
        due("lost", net.resolved(102), 0);
        due("waiting", net.count(1, 6), 0);
        due("answers of lost calls", net.flying(1, 0), 2);
        due("open", net.resolved(104), -1);
        due("RESOLVE", net.deliver(1, 0), 2);
        due("lost first", net.resolved(104), 0);
        due("lost by a loss", net.resolved(106), -1);
        due("RESOLVE", net.deliver(1, 0), 2);
        due("lost by a loss", net.resolved(106), 0);
    }

    private static void rings() {
        sentence("rings");
        Net net = new Net(2);
        net.gives(0, 0, 0);
        net.program(0, SEND, 0, PUT, 1);
        net.run(0, 0);
        net.program(0, GET, 1);
        due("turn", net.turn(0), 1);
        due("itself", net.resolved(101), 0);
        net.program(0, SEND, 1, PUT, 2);
        net.run(0, 0);
        due("lost in the turn", net.resolved(102), 0);
        due("R is the promise", net.slot(1, 2), 102);

        net.program(0, SEND, 0, PUT, 1, SEND, 0, PUT, 2, SEND, 0, PUT, 3);
        net.run(0, 0);
        net.program(0, GET, 2);
        due("turn", net.turn(0), 1);
        due("first", net.resolved(103), 104);
        net.program(0, GET, 3);
        due("turn", net.turn(0), 1);
        due("second", net.resolved(104), 105);
        net.program(0, GET, 1);
        due("turn", net.turn(0), 1);
        due("leads to itself", net.resolved(105), 0);

        ringOverVats();
    }

    private static void ringOverVats() {
        Net net = new Net(2);
        net.gives(0, 0, 1);
        net.gives(0, 1, 0);
        net.program(0, SEND, 1, PUT, 2, SEND, 0, PUT, 3);
        net.run(0, 0);
        due("deliver", net.deliver(0, 1), 1);
        due("turn", net.turn(1), 2);
        due("of vat 1, to vat 0", net.resolved(102), 101);
        net.program(0, GET, 3);
        due("turn", net.turn(0), 1);
        due("of vat 0, to vat 1: only those at home count", net.resolved(101), 102);
        net.program(0, SEND, 2);
        net.run(0, 0);
        for (int i = 0; i < 5; i++) {
            due("goes round", net.deliver(0, 1), 1);
            due("goes round", net.deliver(1, 0), 1);
        }
        due("one message", net.flying(0, 1) + net.flying(1, 0), 1);
        due("open", net.resolved(103), -1);
    }

    private static void sweptRoots() {
        sentence("promise 8, inbox");
        Net net = new Net(2);
        net.program(0, NEW, 4, PUT, 0, NIL, 0, SEND, 0, NIL, 0, PUT, 0);
        net.run(0, 0);
        due("the answer is freed", net.sweep(0), 1);
        due("freed", net.home(101), -1);
        due("the target is not", net.home(3), 0);
        due("turn", net.turn(0), 3);
        due("nothing happens", net.resolved(101), -1);
        due("now it is", net.sweep(0), 1);
        due("freed", net.home(3), -1);
        due("once only", net.sweep(0), 0);

        net.gives(0, 1, 0);
        net.program(0, NEW, 4, SEND, 1);
        net.run(0, 0);
        due("the answer is freed", net.sweep(0), 1);
        due("the argument is not", net.home(4), 0);
        net.program(0);
        due("turn", net.turn(0), 1);
        due("now it is", net.sweep(0), 1);

        sentence("promise 8, waiting calls");
        net.program(0, SEND, 1, PUT, 2, NEW, 4, SEND, 2, NIL, 0, PUT, 2);
        net.run(0, 0);
        due("only the answer of the call that waits", net.sweep(0), 1);
        due("answer", net.home(104), -1);
        due("promise with a call", net.home(103), 0);
        due("argument of the call", net.home(5), 0);
    }

    private static void sweptChains() {
        sentence("promise 8, what is further reached");
        Net net = new Net(2);
        net.gives(0, 3, 0);
        net.gives(0, 2, 1);
        net.program(0, GET, 2, NEW, 4, NEW, 4, SEND, 3, PUT, 0, NIL, 0, PUT, 2);
        net.run(0, 0);
        net.program(0);
        due("turn", net.turn(0), 1);
        due("resolved", net.resolved(101), 4);
        due("all is reached", net.sweep(0), 0);
        due("no release", net.flying(0, 1), 0);
        net.program(0, PUT, 0);
        net.run(0, 0);
        due("nothing of it is", net.sweep(0), 3);
        net.counts(0, 1, 0, 0, 0);
        due("release", net.flying(0, 1), 1);
        due("slot of a freed object", net.slot(4, 0), 0);
        due("freed promise", net.resolved(101), -1);
        due("RELEASE", net.deliver(0, 1), 3);
        due("x", net.exported(2, 0), 0);

        sentence("promise 8, of other vats nothing more");
        net = new Net(2);
        net.gives(0, 0, 1);
        net.gives(1, 0, 0);
        net.program(0, NEW, 4, PUT, 1);
        net.run(0, 0);
        net.program(0, GET, 1, SEND, 0, NIL, 0, PUT, 1);
        net.program(1, PUT, 1);
        net.run(0, 0);
        due("deliver", net.deliver(0, 1), 1);
        due("turn", net.turn(1), 2);
        due("the other vat has it", net.slot(2, 1), 3);
        due("x holds it", net.sweep(0), 0);
        due("deliver", net.deliver(0, 1), 3);
        net.gives(1, 1, 1);
        due("sweep frees the answer", net.sweep(1), 1);
        due("RELEASE", net.deliver(1, 0), 3);
        due("x", net.exported(3, 1), 0);
        due("now it is freed", net.sweep(0), 1);
        due("freed", net.home(3), -1);
    }

    private static void sweptSlots() {
        sentence("promise 8, slots");
        Net net = new Net(3);
        net.program(0, NEW, 4, PUT, 0, NEW, 4, PUT, 1, NEW, 4, PUT, 2, NEW, 4, PUT, 3);
        net.run(0, 0);
        due("each slot is looked at", net.sweep(0), 0);
        for (int s = 0; s < 4; s++) {
            net.gives(0, s, 0);
            due("each has the one before it", net.sweep(0), s == 3 ? 4 : 0);
        }
        net.gives(0, 0, 1);
        net.gives(0, 1, 2);
        net.gives(1, 0, 2);
        net.gives(0, 1, 0);
        due("sweep", net.sweep(0), 0);
        due("slots of another vat's object hold nothing here", net.flying(0, 2), 1);
        due("the object itself is held", net.imported(0, 2), 1);
        due("that vat's import is its own", net.imported(1, 3), 1);
    }

    private static void objectSweptByGift() {
        sentence("promise 8, a gift of an object that waits");
        Net net = new Net(3);
        net.gives(2, 0, 0);
        net.gives(0, 1, 1);
        net.program(2, NEW, 5, SEND, 0);
        net.program(0, SEND, 1);
        net.run(2, 0);
        due("CALL", net.deliver(2, 0), 1);
        due("turn", net.turn(0), 1);
        due("sweep", net.sweep(0), 0);
        due("GIFT", net.deliver(0, 2), 4);
        due("RELEASE", net.deliver(0, 2), 3);
        due("x", net.exported(4, 0) + net.exported(4, 1), 0);
        due("the gift holds it", net.sweep(2), 0);
        due("CALL", net.deliver(0, 1), 1);
        due("REDEEM", net.deliver(1, 2), 5);
        due("x", net.exported(4, 1), 1);
    }

    private static void sweptByGift() {
        sentence("promise 8, a gift that waits");
        Net net = new Net(3);
        net.gives(0, 0, 2);
        net.gives(0, 1, 1);
        net.program(0, SEND, 0, PUT, 2);
        net.program(2, NEW, 5);
        net.run(0, 0);
        due("CALL", net.deliver(0, 2), 1);
        due("turn", net.turn(2), 3);
        due("resolved", net.resolved(101), 4);
        net.program(0, GET, 2, SEND, 1, NIL, 0, PUT, 2);
        net.run(0, 0);
        due("sweep", net.sweep(0), 0);
        due("GIFT", net.deliver(0, 2), 4);
        due("RELEASE", net.deliver(0, 2), 3);
        due("x", net.exported(101, 0), 0);
        due("the gift holds it", net.sweep(2), 0);
        due("and what it is resolved to", net.home(4), 2);
        due("CALL", net.deliver(0, 1), 1);
        due("REDEEM", net.deliver(1, 2), 5);
        due("x", net.exported(101, 1), 1);
        due("x holds it", net.sweep(2), 0);
        due("turn", net.turn(1), 2);
        due("RELEASE", net.deliver(0, 1), 3);
        due("the answer is freed", net.sweep(1), 1);
        due("RELEASE", net.deliver(1, 2), 3);
        due("nothing holds it", net.sweep(2), 2);
        net.counts(2, 1, 0, 0, 0, 0, 0, 0, 0);
    }

    private static void releasesInOrder() {
        sentence("promise 8, releases");
        Net net = new Net(2);
        net.gives(0, 0, 1);
        net.gives(0, 0, 1);
        net.program(0, SEND, 0, SEND, 0, NIL, 0, PUT, 0);
        net.run(0, 0);
        due("imports", net.count(0, 3), 3);
        due("sweep", net.sweep(0), 0);
        due("no imports", net.count(0, 3), 0);
        due("no c", net.imported(0, 2) + net.imported(0, 101) + net.imported(0, 102), 0);
        due("messages", net.flying(0, 1), 5);
        due("sweep", net.sweep(0), 0);
        due("once only", net.flying(0, 1), 5);
        due("CALL", net.deliver(0, 1), 1);
        due("CALL", net.deliver(0, 1), 1);
        int[] released = {2, 101, 102};
        int[] counts = {2, 1, 1};
        for (int i = 0; i < 3; i++) {
            due("x before", net.exported(released[i], 0), counts[i]);
            due("RELEASE", net.deliver(0, 1), 3);
            due("x", net.exported(released[i], 0), 0);
        }
        due("the first answer is an argument", net.sweep(1), 1);
        due("freed", net.home(102), -1);
        due("a root is never freed", net.home(2), 1);
    }

    private static void belowZero() {
        sentence("promise 8, x below 0");
        Net net = new Net(3);
        net.gives(0, 0, 1);
        net.gives(0, 1, 2);
        net.program(0, SEND, 1, SEND, 0);
        net.run(0, 0);
        due("CALL", net.deliver(0, 1), 1);
        due("turn", net.turn(1), 2);
        due("CALL", net.deliver(0, 2), 1);
        due("sweep", net.sweep(1), 0);
        due("still has it in its answer", net.imported(1, 101), 1);
        net.program(0);
        due("sweep", net.sweep(0), 0);
        due("RELEASE", net.deliver(0, 1), 3);
        due("the answer is freed", net.sweep(1), 1);
        due("REDEEM", net.deliver(1, 2), 5);
        due("RELEASE", net.deliver(1, 2), 3);
        due("x below 0", net.exported(101, 1), -1);
        due("x of the giver", net.exported(101, 0), 1);
        due("the giver holds it", net.sweep(2), 0);
        due("GIFT", net.deliver(0, 2), 4);
        due("x", net.exported(101, 1), 0);
        due("RELEASE", net.deliver(0, 2), 3);
        due("x", net.exported(101, 0), 0);
        due("a promise whose call is in the inbox", net.sweep(2), 1);
    }

    private static void promise8() {
        sentence("promise 8");
        Net net = new Net(2);
        int[] wrong = {MIN, -1, 2, MAX};
        for (int w : wrong) {
            due("no vat", net.sweep(w), -1);
        }
        due("nothing", net.sweep(0), 0);
        sweptRoots();
        sweptChains();
        sweptSlots();
        sweptByGift();
        objectSweptByGift();
        releasesInOrder();
        belowZero();
    }

    /** Three vats in which something of every kind is there to be asked for. */
    private static Net busyNet() {
        Net net = new Net(3);
        net.gives(0, 0, 1);
        net.gives(0, 1, 2);
        net.program(0, SEND, 0, PUT, 2, SEND, 2, GET, 1, SEND, 2, NEW, 3, PUT, 3);
        net.run(0, 5);
        net.program(0, KEEP, 0, OUT, 0);
        net.run(0, -4);
        due("poke", net.poke(0, 1), true);
        due("poke", net.poke(0, 2), true);
        return net;
    }

    private static void promises9And10() {
        sentence("promise 9");
        Net net = busyNet();
        due("calls", net.flying(0, 1), 3);
        due("gift", net.flying(0, 2), 1);
        due("none", net.flying(1, 0) + net.flying(2, 0) + net.flying(2, 1), 0);
        due("to itself", net.flying(0, 0), 0);
        int[] wrong = {MIN, -1, 3, MAX};
        for (int w : wrong) {
            due("no vat", net.flying(w, 1) + net.flying(0, w) + net.flying(w, w), 0);
        }
        due("deliver", net.deliver(0, 1), 1);
        due("one less", net.flying(0, 1), 2);

        sentence("promise 10");
        due("pokes", net.inbox(0), 2);
        due("delivered", net.inbox(1), 1);
        due("none", net.inbox(2), 0);
        due("waiting calls are not in it", net.deliver(0, 1), 1);
        due("delivered", net.inbox(1), 1);
        for (int w : wrong) {
            due("no vat", net.inbox(w), 0);
        }
        due("turn", net.turn(0), 1);
        due("one less", net.inbox(0), 1);
    }

    private static void promise11() {
        sentence("promise 11");
        Net net = busyNet();
        net.counts(0, 2, 0, 0, 5, 0, 0, 0, 1);
        net.counts(1, 1, 3, 0, 0, 0, 0, 0, 0);
        net.counts(2, 1, 0, 0, 0, 0, 0, 0, 0);
        net.deliverAll(0, 1, 1);
        due("GIFT", net.deliver(0, 2), 4);
        net.counts(1, 1, 3, 0, 1, 0, 0, 2, 0);
        net.counts(2, 1, 0, 0, 0, 1, 0, 0, 0);
        due("REDEEM", net.deliver(1, 2), 5);
        net.counts(2, 1, 0, 0, 0, 0, 0, 0, 0);
        due("turn", net.turn(1), 2);
        net.counts(1, 1, 0, 3, 1, 0, 0, 0, 0);
        int[] noKind = {MIN, -1, 8, MAX};
        int[] noVat = {MIN, -1, 3, MAX};
        for (int i = 0; i < 4; i++) {
            due("no kind", net.count(0, noKind[i]) + net.count(1, noKind[i]), 0);
            net.counts(noVat[i], 0, 0, 0, 0, 0, 0, 0, 0);
        }
    }

    private static void promises12And13() {
        sentence("promise 12");
        Net net = busyNet();
        due("given", net.imported(0, 2), 1);
        due("promise", net.imported(0, 101), 1);
        due("at home", net.imported(0, 1) + net.imported(1, 101) + net.imported(0, 4), 0);
        due("not there", net.imported(1, 1) + net.imported(2, 101) + net.imported(1, 3), 0);
        int[] noVat = {MIN, -1, 3, MAX};
        int[] noEntity = {MIN, -1, 0, 5, 60, 61, 99, 100, 104, 200, 201, 202, MAX};
        for (int w : noVat) {
            due("no vat", net.imported(w, 2), 0);
        }
        for (int e : noEntity) {
            for (int v = 0; v < 3; v++) {
                due("no entity", net.imported(v, e), 0);
                due("no entity", net.exported(e, v), 0);
            }
        }
        sentence("promise 13");
        due("given", net.exported(2, 0), 1);
        due("promise", net.exported(101, 0), 1);
        due("its home", net.exported(2, 1) + net.exported(101, 1), 0);
        due("not for the others", net.exported(2, 2) + net.exported(1, 1) + net.exported(4, 1), 0);
        for (int w : noVat) {
            due("no vat", net.exported(2, w), 0);
        }
    }

    private static void freedEntity() {
        sentence("freed entities");
        Net net = new Net(2);
        net.gives(0, 0, 0);
        net.program(0, SELF, 0, NEW, 6, SEND, 0);
        net.run(0, 3);
        net.program(0);
        due("turn", net.turn(0), 1);
        due("number before", net.number(3), 3);
        due("slot before", net.slot(3, 0), 1);
        due("resolved before", net.resolved(101), 3);
        due("sweep", net.sweep(0), 2);
        due("home", net.home(3), -1);
        due("home", net.home(101), -1);
        due("number", net.number(3), 0);
        due("slot", net.slot(3, 0), 0);
        due("resolved", net.resolved(101), -1);
        due("exported", net.exported(3, 1) + net.exported(101, 1), 0);
        net.program(0, NEW, 6, PUT, 1, SEND, 0);
        net.run(0, 3);
        due("a new number", net.slot(1, 1), 4);
        due("a new number", net.home(102), 0);
    }

    private static void promises14To17() {
        sentence("promises 14 to 17");
        Net net = busyNet();
        int[] noEntity = {MIN, -1, 0, 5, 60, 61, 99, 100, 104, 200, 201, 202, MAX};
        for (int e : noEntity) {
            due("home", net.home(e), -1);
            due("slot", net.slot(e, 0), 0);
            due("number", net.number(e), 0);
            due("resolved", net.resolved(e), -1);
        }
        sentence("promise 14");
        due("root", net.home(3), 2);
        due("made", net.home(4), 0);
        due("promise", net.home(103), 1);
        sentence("promise 15");
        int[] slots = {2, 3, 101, 4};
        for (int s = 0; s < 4; s++) {
            due("slot " + s, net.slot(1, s), slots[s]);
            due("none", net.slot(2, s), 0);
            due("of a promise", net.slot(101, s), 0);
        }
        due("of a made one", net.slot(4, 0), 103);
        int[] noSlot = {MIN, -1, 4, MAX};
        for (int s : noSlot) {
            due("no slot", net.slot(1, s), 0);
        }
        sentence("promise 16");
        due("kept", net.number(1), -4);
        due("made", net.number(4), 5);
        due("of a promise", net.number(101), 0);
        sentence("promise 17");
        due("open", net.resolved(101), -1);
        due("an object", net.resolved(1), -1);
        net.program(1, SELF, 0);
        net.deliverAll(0, 1, 1);
        due("turn", net.turn(1), 2);
        due("to an object", net.resolved(101), 2);
        due("turn", net.turn(1), 2);
        net.program(1);
        due("turn", net.turn(1), 2);
        due("to an object", net.resolved(102), 2);
        due("to an object of another vat", net.resolved(103), 3);
        net.program(0, NIL, 0, SEND, 0);
        due("turn", net.turn(0), 1);
        due("deliver", net.deliver(0, 1), 1);
        due("turn", net.turn(1), 2);
        due("to none", net.resolved(104), 0);
        freedEntity();
    }

    private static void promise18() {
        sentence("promise 18");
        Net net = new Net(2);
        due("none yet", net.output(0, 0), 0);
        net.program(0, OUT, 0);
        for (int i = 1; i <= 13; i++) {
            net.run(0, i == 13 ? MIN : i);
            due("latest", net.output(0, 0), i == 13 ? MIN : i);
            for (int k = 1; k <= 9; k++) {
                due("before " + k, net.output(0, k), Math.max(0, i - k));
            }
        }
        due("put out in all", net.count(0, 7), 13);
        int[] wrong = {MIN, -1, 10, 11, 12, MAX};
        for (int k : wrong) {
            due("no such k", net.output(0, k), 0);
        }
        int[] noVat = {MIN, -1, 2, MAX};
        for (int w : noVat) {
            due("no vat", net.output(w, 0), 0);
        }
        due("another vat", net.output(1, 0), 0);
    }

    public static void main(String[] args) {
        promise1();
        promise2();
        promise3();
        promise4();
        promise5();
        promise6();
        promise7();
        promise8();
        promises9And10();
        promise11();
        promises12And13();
        promises14To17();
        promise18();
        Check.end();
    }
}
