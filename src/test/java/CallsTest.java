/** The sentences of "Terms" about calls that arrive, wait, are sent on and are lost, one by one. */
public final class CallsTest extends Sentences {
    private static void endOfTheInbox() {
        sentence("t is an object: the call goes to the end of h's inbox");
        Net net = Net.knownByFirst(2);
        net.program(1, OUT, 0);
        for (int i = 1; i <= 20; i++) {
            net.pokes(1, i);
        }
        net.program(0, SEND, 0);
        net.run(0, 21);
        net.delivers(0, 1, CALL);
        due("there is room for more than 20", net.inbox(1), 21);
        due("but not for a poke", net.poke(1, 1), false);
        for (int i = 1; i <= 21; i++) {
            net.turns(1, 2);
            due("in the order in which they came", net.output(1, 0), i);
        }
        net.turns(1, -1);
    }

    private static void waitInOrder() {
        sentence("calls wait at an open promise in the order in which they came");
        Net net = Net.knownByFirst(3);
        net.program(2, PUT, 0);
        net.runs(0, SEND, 0, PUT, 2, SEND, 1);
        net.delivers(0, 1, CALL);
        net.delivers(0, 2, CALL);
        net.turns(2, 3);
        due("vat 2 knows the promise too", net.slot(3, 0), 101);
        net.program(0, SEND, 2);
        net.program(2, SEND, 0);
        for (int i = 0; i < 3; i++) {
            net.run(0, 10 + i);
            net.run(2, 20 + i);
        }
        net.delivers(2, 1, REDEEM, CALL);
        net.delivers(0, 1, GIFT, CALL, CALL);
        net.delivers(2, 1, CALL, CALL);
        net.delivers(0, 1, CALL);
        due("waiting", net.count(1, WAITING), 6);
        net.program(1, OUT, 0, SELF, 0);
        net.turns(1, 2);
        int[] values = {20, 10, 11, 21, 22, 12};
        for (int value : values) {
            net.turns(1, 2);
            due("value", net.output(1, 0), value);
        }
    }

    private static void eightMayWait() {
        sentence("t is an open promise: it waits there, or is LOST if 8 calls wait there already");
        Net net = Net.knownByFirst(2);
        net.runs(0, SEND, 0, PUT, 1);
        net.delivers(0, 1, CALL);
        net.program(0, SEND, 1);
        for (int i = 1; i <= 10; i++) {
            net.run(0, i);
            net.delivers(0, 1, CALL);
            due("waiting", net.count(1, WAITING), Math.min(i, 8));
            due("the answer of call " + i, net.resolved(101 + i), i <= 8 ? -1 : 0);
        }
        due("inbox", net.inbox(1), 1);
        net.program(1, OUT, 0, SELF, 0);
        net.turns(1, 2);
        due("inbox", net.inbox(1), 8);
        for (int i = 1; i <= 8; i++) {
            net.turns(1, 2);
            due("value", net.output(1, 0), i);
            due("the answer of call " + i, net.resolved(101 + i), 2);
        }
    }

    /** A promise of vat 0 in slot 1 of its root, and so many pokes that come before its call. */
    private static Net openPromiseHere(int pokes) {
        Net net = new Net(2);
        net.gives(0, 0, 0);
        net.program(0, SEND, 0, PUT, 1);
        for (int i = 0; i <= pokes; i++) {
            net.pokes(0, i);
        }
        net.turns(0, 1);
        due("the promise", net.slot(1, 1), 101);
        return net;
    }

    private static void eightMayWaitInATurn() {
        sentence("LOST if 8 calls wait there already (In a turn that is before the next instruction)");
        Net net = openPromiseHere(3);
        net.program(0, SEND, 1, SEND, 1, SEND, 1, SEND, 1);
        net.turns(0, 1, 1);
        due("waiting", net.count(0, WAITING), 8);
        due("the eighth", net.resolved(109), -1);
        net.program(0, SEND, 1, PUT, 2, SEND, 2, PUT, 3);
        net.turns(0, 1);
        due("waiting", net.count(0, WAITING), 8);
        due("R is the promise", net.slot(1, 2), 110);
        due("the ninth is lost", net.resolved(110), 0);
        due("and so is a call of its answer", net.resolved(111), 0);
        due("R is the promise", net.slot(1, 3), 111);
        due("inbox", net.inbox(0), 1);
        net.program(0);
        net.turns(0, 1);
        due("the eighth, when it was sent on to none", net.resolved(109), 0);
    }

    /** Calls wait at promises 102 and 103; then 103 is resolved to 102. */
    private static void sentOnToWait(int first, int second) {
        sentence("LOST if 8 calls wait there already: " + first + " and " + second + " sent on");
        Net net = Net.knownByFirst(2);
        net.runs(0, SEND, 0, PUT, 1, SEND, 1, PUT, 2, SEND, 0, PUT, 3);
        net.program(0, SEND, 2);
        for (int i = 0; i < first; i++) {
            net.run(0, i);
        }
        net.program(0, SEND, 3);
        for (int i = 0; i < second; i++) {
            net.run(0, 10 + i);
        }
        net.deliverAll(0, 1, CALL);
        net.program(1, SELF, 0);
        net.turns(1, 2);
        due("waiting", net.count(1, WAITING), first + second);
        net.program(1);
        net.turns(1, 2);
        due("resolved", net.resolved(103), 102);
        due("waiting", net.count(1, WAITING), Math.min(8, first + second));
        for (int i = 1; i <= first + second; i++) {
            due("the answer of call " + i, net.resolved(103 + i), i <= 8 ? -1 : 0);
        }
        net.turns(1, 2);
        due("resolved", net.resolved(102), 101);
        net.program(1, OUT, 0);
        for (int i = 0; i < Math.min(8, first + second); i++) {
            net.turns(1, 2);
            due("value", net.output(1, 0), i < first ? i : 10 + i - first);
        }
        due("inbox", net.inbox(1), 0);
    }

    private static void lostAtNone() {
        sentence("u is none: the call is LOST");
        Net net = Net.knownByFirst(2);
        net.runs(0, SEND, 0, PUT, 1, NIL, 0, SEND, 1);
        net.delivers(0, 1, CALL, CALL);
        net.turns(1, 2);
        due("resolved to none", net.resolved(101), 0);
        due("the call that waited", net.resolved(102), 0);
        due("waiting", net.count(1, WAITING), 0);
        net.runs(0, SEND, 1, PUT, 2, SEND, 2);
        net.delivers(0, 1, CALL);
        due("a call that comes later", net.resolved(103), 0);
        net.delivers(0, 1, CALL);
        due("a call of its answer", net.resolved(104), 0);
        due("inbox", net.inbox(1), 0);
        due("no message", net.flying(1, 0), 0);

        net = openPromiseHere(0);
        net.program(0);
        net.turns(0, 1);
        net.runs(0, SEND, 1, PUT, 2);
        due("a call in a turn", net.resolved(102), 0);
        due("R is the promise", net.slot(1, 2), 102);
        due("inbox", net.inbox(0), 0);
    }

    private static void sentOnHere() {
        sentence("SENT ON .. with the same value, argument and answer (u is at home at h)");
        Net net = Net.knownByFirst(2);
        net.runs(0, SEND, 0, PUT, 1);
        net.program(0, NEW, 7, SEND, 1);
        net.run(0, -9);
        net.delivers(0, 1, CALL, CALL);
        net.program(1, SELF, 0);
        net.turns(1, 2);
        due("x of the argument", net.exported(3, 1), 1);
        due("c of the argument", net.imported(1, 3), 1);
        net.program(1, OUT, 0, PUT, 2);
        net.turns(1, 2);
        due("value", net.output(1, 0), -9);
        due("argument", net.slot(2, 2), 3);
        due("answer", net.resolved(102), 3);
        due("no message", net.flying(1, 0), 0);
    }

    /** Promise 101 of vat 1 is in slot 3 of root 1 and resolved to the root of vat 2. */
    private static Net leadingAway() {
        Net net = Net.knownByFirst(4);
        net.gives(1, 0, 2);
        net.runs(0, SEND, 0, PUT, 3);
        net.delivers(0, 1, CALL);
        net.program(1, GET, 0);
        net.turns(1, 2);
        due("resolved", net.resolved(101), 3);
        return net;
    }

    private static void sentOnAway() {
        sentence("Otherwise h sends a CALL with target u to the home of u (the argument travels)");
        Net net = leadingAway();
        net.program(2, OUT, 0, PUT, 1);
        net.program(0, NEW, 7, SEND, 3);
        net.run(0, 77);
        net.delivers(0, 1, CALL);
        due("not in this inbox", net.inbox(1) + net.count(1, WAITING), 0);
        due("c at h", net.imported(1, 5), 1);
        due("a gift of h", net.flying(1, 0), 1);
        net.delivers(1, 2, CALL);
        due("c at the home of u", net.imported(2, 5), 1);
        net.delivers(2, 0, REDEEM);
        net.delivers(1, 0, GIFT);
        due("x for the home of u", net.exported(5, 2), 1);
        net.turns(2, 3);
        due("value", net.output(2, 0), 77);
        due("argument", net.slot(3, 1), 5);
        due("the answer is still open", net.resolved(102), -1);
        net.delivers(2, 1, RESOLVE);
        due("answer", net.resolved(102), 5);
        due("c at its home", net.imported(1, 5), 2);
        net.delivers(2, 0, GIFT);
        net.delivers(1, 0, REDEEM);
        due("x", net.exported(5, 1), 2);
    }

    private static void sentOnWithOthers() {
        sentence("h sends a CALL .. (the argument travels): at home at h, at u's home, or none");
        Net net = leadingAway();
        net.program(2, PUT, 1);
        net.runs(0, GET, 3, SEND, 3);
        net.delivers(0, 1, CALL);
        due("x of one at home at h", net.exported(101, 2), 1);
        net.delivers(1, 2, CALL);
        due("c", net.imported(2, 101), 1);
        net.turns(2, 3);
        due("argument", net.slot(3, 1), 101);
        net.delivers(2, 1, RESOLVE);

        net.runs(0, GET, 1, SEND, 3);
        net.delivers(0, 2, GIFT);
        net.delivers(0, 1, CALL);
        due("c of one that is at home where u is", net.imported(1, 3), 2);
        net.delivers(1, 2, REDEEM, CALL);
        due("x", net.exported(3, 1), 2);
        net.turns(2, 3);
        due("argument", net.slot(3, 1), 3);
        net.delivers(2, 1, RESOLVE);

        net.runs(0, NIL, 0, SEND, 3);
        net.delivers(0, 1, CALL);
        net.delivers(1, 2, CALL);
        net.turns(2, 3);
        due("none", net.slot(3, 1), 0);
        net.delivers(2, 1, RESOLVE);
        due("no other messages", net.flying(2, 0) + net.flying(1, 0) + net.flying(1, 2), 0);
    }

    /**
     * Promises 101 to 196 of vat 0, whose calls are the next in its inbox: the argument of the first
     * is none, that of each other the promise before it. The last is in slot 1.
     */
    private static Net manyPromises() {
        Net net = new Net(2);
        net.gives(0, 0, 0);
        net.gives(1, 0, 0);
        net.program(0, GET, 1, SEND, 0, SEND, 0, SEND, 0, SEND, 0, SEND, 0, SEND, 0, PUT, 1);
        for (int i = 0; i < 16; i++) {
            net.pokes(0, i);
        }
        for (int i = 0; i < 16; i++) {
            net.turns(0, 1);
        }
        due("the last", net.slot(1, 1), 196);
        return net;
    }

    /** The promises are resolved each to the one before it, but for the first. */
    private static void resolveMany(Net net) {
        net.program(0);
        for (int p = 102; p <= 196; p++) {
            net.turns(0, 1);
            due("resolved", net.resolved(p), p - 1);
        }
        due("inbox", net.inbox(0), 0);
    }

    private static void throughManyPromises() {
        sentence("u is at home at h: it arrives there with target u");
        Net net = manyPromises();
        net.program(0, SELF, 0);
        net.turns(0, 1);
        resolveMany(net);
        net.program(0, SEND, 1, PUT, 2);
        net.run(0, 6);
        due("it is in the inbox", net.inbox(0), 1);
        net.program(0, OUT, 0, SELF, 0);
        net.turns(0, 1);
        due("value", net.output(0, 0), 6);
        due("answer", net.resolved(197), 1);

        net = manyPromises();
        net.program(0);
        net.turns(0, 1);
        resolveMany(net);
        net.runs(0, SEND, 1, PUT, 2);
        due("lost at the end of it", net.resolved(197), 0);
        due("inbox", net.inbox(0), 0);
    }

    /** The call whose answer is promise 102 of vat 1 is in the inbox of vat 0. */
    private static Net answeredElsewhere() {
        Net net = Net.knownByFirst(3);
        net.runs(0, SELF, 0, SEND, 0, PUT, 2);
        net.delivers(0, 1, CALL);
        net.turns(1, 2);
        due("resolved to the root of vat 0", net.resolved(101), 1);
        net.runs(0, NIL, 0, SEND, 2, PUT, 3, NIL, 0, SEND, 3);
        net.delivers(0, 1, CALL, CALL);
        due("a call of 102 waits", net.count(1, WAITING), 1);
        net.delivers(1, 0, CALL);
        due("the call", net.inbox(0), 1);
        return net;
    }

    private static void resolvedElsewhere() {
        sentence("w is not the home of p: w sends a RESOLVE to the home of p (r travels)");
        Net net = answeredElsewhere();
        net.program(0, NEW, 7);
        net.turns(0, 1);
        due("open until it comes", net.resolved(102), -1);
        due("x of r", net.exported(4, 1), 1);
        due("c of r", net.imported(1, 4), 0);
        net.delivers(0, 1, RESOLVE);
        due("resolved", net.resolved(102), 4);
        due("c of r", net.imported(1, 4), 1);
        due("the call that waited is sent on", net.flying(1, 0), 1);

        net = answeredElsewhere();
        net.program(0);
        net.turns(0, 1);
        due("open until it comes", net.resolved(102), -1);
        net.delivers(0, 1, RESOLVE);
        due("resolved to none", net.resolved(102), 0);
        due("the call that waited is lost", net.resolved(103), 0);

        net = answeredElsewhere();
        net.program(0, GET, 0);
        net.turns(0, 1);
        due("x of one that comes home", net.exported(2, 0), 1);
        net.delivers(0, 1, RESOLVE);
        due("resolved", net.resolved(102), 2);
        due("no c at home", net.imported(1, 2), 0);
        due("the call that waited is here", net.inbox(1), 1);

        net = answeredElsewhere();
        net.program(0, GET, 1);
        net.turns(0, 1);
        net.delivers(0, 2, GIFT);
        net.delivers(0, 1, RESOLVE);
        due("resolved", net.resolved(102), 3);
        due("c of one of a third vat", net.imported(1, 3), 1);
        net.delivers(1, 2, REDEEM, CALL);
        due("x", net.exported(3, 1), 1);
    }

    private static void freedBefore() {
        sentence("nothing happens if p is resolved or freed");
        Net net = Net.knownByFirst(2);
        net.gives(1, 0, 1);
        net.program(1, NEW, 7, SEND, 0);
        net.pokes(1, 5);
        net.turns(1, 2);
        net.sweeps(1, 1);
        due("the answer is freed", net.home(101), -1);
        net.program(1);
        net.turns(1, 2);
        due("still freed", net.home(101), -1);
        due("not resolved", net.resolved(101), -1);
        net.counts(1, 2, 0, 0);
        net.sweeps(1, 1);
        due("the argument is freed", net.home(3), -1);

        net = answeredElsewhere();
        net.program(0, NIL, 0, PUT, 2, PUT, 3, NEW, 7);
        net.turns(0, 1);
        net.sweeps(0, 0);
        net.delivers(0, 1, RESOLVE);
        due("resolved before it was freed", net.resolved(102), 4);
        net.delivers(0, 1, RELEASE, RELEASE, RELEASE);
        net.sweeps(1, 3);
        net.counts(1, 1, 0, 0, 0);
    }

    private static void freedBeforeElsewhere() {
        sentence("nothing happens if p is .. freed: when a RESOLVE comes");
        Net net = Net.knownByFirst(2);
        net.runs(0, SELF, 0, SEND, 0, PUT, 2);
        net.delivers(0, 1, CALL);
        net.turns(1, 2);
        net.runs(0, NIL, 0, SEND, 2, NIL, 0, PUT, 2);
        net.delivers(0, 1, CALL);
        net.sweeps(0, 0);
        net.delivers(0, 1, RELEASE, RELEASE);
        net.sweeps(1, 2);
        net.counts(1, 1, 0, 0, 0);
        net.delivers(1, 0, CALL);
        net.program(0, NEW, 7);
        net.turns(0, 1);
        net.delivers(0, 1, RESOLVE);
        due("still freed", net.home(102), -1);
        due("not resolved", net.resolved(102), -1);
        due("but its argument has travelled", net.imported(1, 3), 1);
        net.counts(1, 1, 0, 0, 1);
        net.sweeps(1, 0);
        due("and is released", net.imported(1, 3), 0);
    }

    private static void toItself() {
        sentence("if r is p .. r counts as none");
        Net net = openPromiseHere(1);
        net.program(0, SEND, 1);
        net.turns(0, 1);
        due("a call waits", net.count(0, WAITING), 1);
        net.program(0, GET, 1);
        net.turns(0, 1);
        due("resolved to none", net.resolved(101), 0);
        due("waiting", net.count(0, WAITING), 0);
        due("the call that waited is lost", net.resolved(102), 0);

        net = answeredElsewhere();
        net.program(0, GET, 3);
        net.turns(0, 1);
        net.delivers(0, 1, RESOLVE);
        due("resolved to none by a message", net.resolved(102), 0);
        due("the call that waited is lost", net.resolved(103), 0);
    }

    private static void leadsToItself() {
        sentence("if r .. leads to p through resolved promises .. r counts as none");
        Net net = new Net(2);
        net.gives(0, 0, 0);
        net.pokes(0, 0);
        net.pokes(0, 0);
        net.program(0, SEND, 0, PUT, 1, NIL, 0, SEND, 0, PUT, 2);
        net.turns(0, 1);
        net.program(0, SEND, 2);
        net.turns(0, 1);
        net.program(0, GET, 2);
        net.turns(0, 1);
        due("to an open promise", net.resolved(101), 102);
        net.program(0, GET, 1);
        net.turns(0, 1);
        due("that leads to itself", net.resolved(102), 0);
        due("the first is as it was", net.resolved(101), 102);
        due("the call that waited is lost", net.resolved(103), 0);

        net = manyPromises();
        net.program(0, GET, 1);
        net.turns(0, 1);
        due("the first to the last, which is open", net.resolved(101), 196);
        net.program(0);
        for (int p = 102; p <= 195; p++) {
            net.turns(0, 1);
            due("to the one before it", net.resolved(p), p - 1);
        }
        net.turns(0, 1);
        due("the last through all the others to itself", net.resolved(196), 0);
        net.runs(0, SEND, 1);
        due("a call of it", net.resolved(197), 0);
    }

    private static void leadsElsewhere() {
        sentence("p is resolved to r: r leads to another entity");
        Net net = new Net(2);
        net.gives(0, 0, 0);
        net.runs(0, SELF, 0, SEND, 0, SEND, 0, SEND, 0, PUT, 1);
        net.program(0);
        net.turns(0, 1, 1, 1);
        due("to an object", net.resolved(101), 1);
        due("to a promise that leads to an object", net.resolved(102), 101);
        due("to one that leads there through another", net.resolved(103), 102);
    }

    private static void onlyPromisesAtHome() {
        sentence("through resolved promises that are at home at w");
        Net net = Net.knownByFirst(2);
        net.gives(0, 1, 0);
        net.runs(0, SEND, 1, PUT, 2, SEND, 0, PUT, 3);
        net.delivers(0, 1, CALL);
        net.turns(1, 2);
        due("of vat 1, to vat 0", net.resolved(102), 101);
        net.program(0, GET, 3);
        net.turns(0, 1);
        due("of vat 0, to vat 1", net.resolved(101), 102);
        net.runs(0, SEND, 2);
        for (int i = 0; i < 20; i++) {
            net.delivers(0, 1, CALL);
            net.delivers(1, 0, CALL);
        }
        due("a call goes round for ever", net.flying(0, 1), 1);
        due("its answer", net.resolved(103), -1);
    }

    private static void waitNoMore() {
        sentence("the calls that wait at p are sent on from w to r, in their order (.. no more)");
        Net net = Net.knownByFirst(3);
        net.gives(1, 0, 2);
        net.runs(0, SEND, 0, PUT, 2);
        net.program(0, SEND, 2);
        for (int i = 1; i <= 8; i++) {
            net.run(0, i);
        }
        net.deliverAll(0, 1, CALL);
        due("waiting", net.count(1, WAITING), 8);
        net.program(1, GET, 0);
        net.turns(1, 2);
        due("waiting", net.count(1, WAITING), 0);
        due("sent on", net.flying(1, 2), 8);
        net.program(2, OUT, 0);
        for (int i = 1; i <= 8; i++) {
            net.delivers(1, 2, CALL);
            net.turns(2, 3);
            due("in their order", net.output(2, 0), i);
        }
        due("a poke is not among them", net.inbox(2), 0);
    }

    /**
     * A call of a promise of vat 1, which is in slot s of root 1, by way of a new promise of vat 0:
     * so its answer is at home at vat 0.
     */
    private static void callByWayOf(Net net, int s) {
        net.runs(0, SEND, 1, PUT, 0);
        net.program(0, GET, s);
        net.turns(0, 1);
        net.runs(0, NIL, 0, SEND, 0);
    }

    private static void answersOfTheLost() {
        sentence("the answers of the calls that were lost in it are resolved in that vat to none");
        Net net = Net.knownByFirst(2);
        net.gives(0, 1, 0);
        net.runs(0, SEND, 0, PUT, 2);
        net.program(0, SEND, 2);
        for (int i = 1; i <= 8; i++) {
            net.run(0, i);
        }
        callByWayOf(net, 2);
        due("the answer", net.home(111), 0);
        net.deliverAll(0, 1, CALL);
        due("waiting", net.count(1, WAITING), 8);
        due("open until it is told", net.resolved(111), -1);
        due("messages", net.flying(1, 0), 1);
        net.delivers(1, 0, RESOLVE);
        due("lost at an open promise", net.resolved(111), 0);
        net.turns(1, 2);
        for (int i = 1; i <= 8; i++) {
            due("lost when sent on to none", net.resolved(101 + i), 0);
        }
    }

    private static void inTheOrderOfLosses() {
        sentence("in the order in which the calls were lost; .. lost by that come behind all these");
        Net net = Net.knownByFirst(2);
        net.gives(0, 1, 0);
        net.runs(0, SEND, 0, PUT, 2, NIL, 0, SEND, 2, PUT, 3);
        callByWayOf(net, 2);
        callByWayOf(net, 3);
        callByWayOf(net, 2);
        net.deliverAll(0, 1, CALL);
        due("102's call and two more wait at 101, one at 102", net.count(1, WAITING), 4);
        net.turns(1, 2);
        due("waiting", net.count(1, WAITING), 0);
        due("lost first", net.resolved(102), 0);
        due("messages", net.flying(1, 0), 3);
        int[] answers = {104, 108, 106};
        for (int answer : answers) {
            due("open", net.resolved(answer), -1);
            net.delivers(1, 0, RESOLVE);
            due("to none", net.resolved(answer), 0);
        }
    }

    private static void noAnswer() {
        sentence("an answer (a promise, or none for one that was poked)");
        Net net = new Net(2);
        net.program(0, SELF, 0);
        net.run(0, 3);
        net.counts(0, 1, 0, 0, 0, 0, 0, 0, 0);
        due("no promise", net.home(101), -1);
        due("no message", net.flying(0, 1), 0);
    }

    public static void main(String[] args) {
        endOfTheInbox();
        waitInOrder();
        eightMayWait();
        eightMayWaitInATurn();
        sentOnToWait(5, 2);
        sentOnToWait(5, 3);
        sentOnToWait(5, 6);
        sentOnToWait(8, 1);
        sentOnToWait(0, 8);
        lostAtNone();
        sentOnHere();
        sentOnAway();
        sentOnWithOthers();
        throughManyPromises();
        resolvedElsewhere();
        freedBefore();
        freedBeforeElsewhere();
        toItself();
        leadsToItself();
        leadsElsewhere();
        onlyPromisesAtHome();
        waitNoMore();
        answersOfTheLost();
        inTheOrderOfLosses();
        noAnswer();
        Check.end();
    }
}
