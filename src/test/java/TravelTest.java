/** The sentences of "Terms" about counts, references that travel, gifts and messages, one by one. */
public final class TravelTest extends Sentences {
    private static void noImportAtZero() {
        sentence("there is no import when c is 0");
        Net net = new Net(2);
        due("c at first", net.imported(0, 2), 0);
        due("imports at first", net.count(0, IMPORTS), 0);
        net.gives(0, 0, 1);
        net.gives(0, 1, 1);
        due("c", net.imported(0, 2), 2);
        due("one import", net.count(0, IMPORTS), 1);
        net.gives(0, 0, 0);
        net.gives(0, 1, 0);
        due("kept until a sweep", net.imported(0, 2), 2);
        net.sweeps(0, 0);
        due("c", net.imported(0, 2), 0);
        due("no import", net.count(0, IMPORTS), 0);
        net.gives(0, 2, 1);
        due("c", net.imported(0, 2), 1);
        due("an import again", net.count(0, IMPORTS), 1);
    }

    /** Vat 1 took the root of vat 2 from vat 0 that often, and has given it up again. */
    private static Net takenAndReleased(int times) {
        Net net = Net.knownByFirst(3);
        net.program(0, GET, 1, SEND, 0);
        for (int i = 0; i < times; i++) {
            net.run(0, 0);
            net.delivers(0, 1, CALL);
            net.turns(1, 2);
        }
        net.sweeps(0, 0);
        net.deliverAll(0, 1, RELEASE);
        net.sweeps(1, times);
        return net;
    }

    private static void belowZero() {
        sentence("an EXPORT count x .. which may be below 0 for a time");
        int times = 3;
        Net net = takenAndReleased(times);
        due("c is gone", net.imported(1, 3), 0);
        for (int i = 1; i <= times; i++) {
            net.delivers(1, 2, REDEEM);
            due("x", net.exported(3, 1), 0);
        }
        net.delivers(1, 2, RELEASE);
        due("x below 0", net.exported(3, 1), -times);
        due("x for the giver", net.exported(3, 0), 1);
        for (int i = 1; i <= times; i++) {
            net.delivers(0, 2, GIFT);
            due("x", net.exported(3, 1), i - times);
            due("redeems that wait", net.count(2, REDEEMS), times - i);
        }
        due("no more messages", net.flying(0, 2) + net.flying(1, 2), 0);
    }

    private static void putInAtHome() {
        sentence("if a is the home of e, x of e for b grows by 1");
        Net net = new Net(3);
        net.gives(0, 0, 1);
        net.runs(0, NEW, 7, PUT, 1, SEND, 0, GET, 1, SEND, 0);
        due("x when put into the messages", net.exported(4, 1), 2);
        due("x for another", net.exported(4, 2), 0);
        due("no gift", net.flying(0, 2) + net.flying(1, 0), 0);
        for (int c = 0; c <= 2; c++) {
            due("c after " + c + " deliveries", net.imported(1, 4), c);
            due("imports", net.count(1, IMPORTS), c == 0 ? 0 : 1);
            net.delivers(0, 1, c < 2 ? CALL : 0);
        }
        due("x", net.exported(4, 1), 2);
        due("no redeem", net.flying(1, 0), 0);
    }

    private static void putInElsewhere() {
        sentence("if neither a nor b is, a sends a GIFT to the home of e");
        Net net = Net.knownByFirst(4);
        net.runs(0, GET, 2, SEND, 0);
        due("the call", net.flying(0, 1), 1);
        due("the gift", net.flying(0, 3), 1);
        due("nothing to another", net.flying(0, 2), 0);
        due("x for b", net.exported(4, 1), 0);
        due("x for a", net.exported(4, 0), 1);
        net.delivers(0, 3, GIFT);
        due("it waits", net.count(3, GIFTS), 1);
        due("x for b", net.exported(4, 1), 0);
        due("c at a", net.imported(0, 4), 1);
        due("c at b", net.imported(1, 4), 0);
    }

    private static void takenOut() {
        sentence("if b is not the home, c of e at b grows by 1; .. b sends a REDEEM");
        Net net = Net.knownByFirst(4);
        net.runs(0, GET, 2, SEND, 0);
        net.delivers(0, 1, CALL);
        due("c", net.imported(1, 4), 1);
        due("imports", net.count(1, IMPORTS), 1);
        due("the redeem", net.flying(1, 3), 1);
        due("nothing to others", net.flying(1, 0) + net.flying(1, 2), 0);
        net.delivers(1, 3, REDEEM);
        due("it waits", net.count(3, REDEEMS), 1);
        due("x", net.exported(4, 1), 0);
        net.delivers(0, 3, GIFT);
        due("x", net.exported(4, 1), 1);
        net.run(0, 0);
        net.delivers(0, 1, CALL);
        due("c of one that comes again", net.imported(1, 4), 2);
        due("imports", net.count(1, IMPORTS), 1);
        due("a redeem again", net.flying(1, 3), 1);
    }

    private static void noneTravels() {
        sentence("For none .. nothing happens");
        Net net = Net.knownByFirst(3);
        net.runs(0, NIL, 0, SEND, 0);
        due("no gift", net.flying(0, 2), 0);
        net.delivers(0, 1, CALL);
        due("no import", net.count(1, IMPORTS), 0);
        due("no redeem", net.flying(1, 2) + net.flying(1, 0), 0);
        net.program(1, PUT, 0);
        net.turns(1, 2);
        due("the argument is none", net.slot(2, 0), 0);
        due("the answer is none", net.resolved(101), 0);
    }

    private static void travelsHome() {
        sentence("For none and at home nothing happens");
        Net net = Net.knownByFirst(3);
        net.runs(0, GET, 0, SEND, 0);
        due("x when put in", net.exported(2, 0), 1);
        due("c when put in", net.imported(0, 2), 1);
        due("no gift", net.flying(0, 2), 0);
        due("one message", net.flying(0, 1), 1);
        net.delivers(0, 1, CALL);
        due("no c at home", net.imported(1, 2), 0);
        due("no import", net.count(1, IMPORTS), 0);
        due("x", net.exported(2, 0), 1);
        due("x for home", net.exported(2, 1), 0);
        due("no redeem", net.flying(1, 0) + net.flying(1, 2), 0);
        net.program(1, PUT, 0);
        net.turns(1, 2);
        due("the argument", net.slot(2, 0), 2);
    }

    private static void pairs(Net net, int gifts, int redeems, int exports) {
        due("gifts that wait", net.count(2, GIFTS), gifts);
        due("redeems that wait", net.count(2, REDEEMS), redeems);
        due("x", net.exported(3, 1), exports);
    }

    private static void whicheverComesFirst() {
        sentence("the gift and the redeem .. make a pair, whichever comes first");
        Net net = Net.knownByFirst(3);
        net.runs(0, GET, 1, SEND, 0);
        net.delivers(0, 1, CALL);
        pairs(net, 0, 0, 0);
        net.delivers(0, 2, GIFT);
        pairs(net, 1, 0, 0);
        net.delivers(1, 2, REDEEM);
        pairs(net, 0, 0, 1);
        net.run(0, 0);
        net.delivers(0, 1, CALL);
        net.delivers(1, 2, REDEEM);
        pairs(net, 0, 1, 1);
        net.delivers(0, 2, GIFT);
        pairs(net, 0, 0, 2);
    }

    private static void bothAreGone() {
        sentence("when a pair is made, both are gone and x of e for b grows by 1");
        Net net = Net.knownByFirst(3);
        net.program(0, GET, 1, SEND, 0, GET, 1, SEND, 0, GET, 1, SEND, 0);
        net.run(0, 0);
        net.deliverAll(0, 1, CALL);
        net.deliverAll(0, 2, GIFT);
        for (int i = 0; i < 3; i++) {
            pairs(net, 3 - i, 0, i);
            net.delivers(1, 2, REDEEM);
        }
        pairs(net, 0, 0, 3);
        net.run(0, 0);
        net.deliverAll(0, 1, CALL);
        net.deliverAll(1, 2, REDEEM);
        for (int i = 0; i < 3; i++) {
            pairs(net, 0, 3 - i, 3 + i);
            net.delivers(0, 2, GIFT);
        }
        pairs(net, 0, 0, 6);
        due("x for the giver", net.exported(3, 0), 1);
    }

    /** Vats 0 and 3 have both sent the root of vat 2 to vat 1. */
    private static Net twoGivers() {
        Net net = new Net(4);
        int[] givers = {0, 3};
        for (int a : givers) {
            net.gives(a, 0, 1);
            net.gives(a, 1, 2);
            net.runs(a, GET, 1, SEND, 0);
        }
        return net;
    }

    private static void pairOfOneGiver() {
        sentence("the gift and the redeem of the same a");
        Net net = twoGivers();
        net.delivers(0, 2, GIFT);
        net.delivers(3, 1, CALL);
        net.delivers(1, 2, REDEEM);
        pairs(net, 1, 1, 0);
        net.delivers(0, 1, CALL);
        net.delivers(1, 2, REDEEM);
        pairs(net, 0, 1, 1);
        net.delivers(3, 2, GIFT);
        pairs(net, 0, 0, 2);

        net = twoGivers();
        net.delivers(0, 1, CALL);
        net.delivers(1, 2, REDEEM);
        net.delivers(3, 2, GIFT);
        pairs(net, 1, 1, 0);
        net.delivers(0, 2, GIFT);
        pairs(net, 1, 0, 1);
    }

    /** Vat 0 has sent the root of vat 2 to vat 1, then to vat 3. */
    private static Net twoTakers() {
        Net net = Net.knownByFirst(4);
        net.runs(0, GET, 1, SEND, 0, GET, 1, SEND, 2);
        due("gifts", net.flying(0, 2), 2);
        return net;
    }

    private static void pairOfOneTaker() {
        sentence("the gift and the redeem of the same .. b");
        Net net = twoTakers();
        net.delivers(0, 2, GIFT);
        net.delivers(0, 3, CALL);
        net.delivers(3, 2, REDEEM);
        pairs(net, 1, 1, 0);
        due("x for the second", net.exported(3, 3), 0);
        net.delivers(0, 2, GIFT);
        pairs(net, 1, 0, 0);
        due("x for the second", net.exported(3, 3), 1);
        net.delivers(0, 1, CALL);
        net.delivers(1, 2, REDEEM);
        pairs(net, 0, 0, 1);

        net = twoTakers();
        net.delivers(0, 3, CALL);
        net.delivers(3, 2, REDEEM);
        net.delivers(0, 2, GIFT);
        pairs(net, 1, 1, 0);
        due("x for the second", net.exported(3, 3), 0);
    }

    /** Vat 0 has sent promise 101 and then the root, both of vat 2, to vat 1, which has both. */
    private static Net twoEntities() {
        Net net = Net.knownByFirst(3);
        net.runs(0, SEND, 1, SEND, 0, GET, 1, SEND, 0);
        net.delivers(0, 2, CALL);
        net.delivers(0, 1, CALL, CALL);
        return net;
    }

    private static void pairOfOneEntity() {
        sentence("the gift and the redeem of the same .. e");
        Net net = twoEntities();
        net.delivers(0, 2, GIFT, GIFT);
        pairs(net, 2, 0, 0);
        net.delivers(1, 2, REDEEM);
        pairs(net, 1, 0, 0);
        due("x of the promise", net.exported(101, 1), 1);
        net.delivers(1, 2, REDEEM);
        pairs(net, 0, 0, 1);
        due("x of the promise", net.exported(101, 1), 1);

        net = twoEntities();
        net.delivers(1, 2, REDEEM, REDEEM);
        net.delivers(0, 2, GIFT);
        pairs(net, 0, 1, 0);
        due("x of the promise", net.exported(101, 1), 1);
        net.delivers(0, 2, GIFT);
        pairs(net, 0, 0, 1);
    }

    private static void noPairTheOtherWay() {
        sentence("that a gives e to b: not that b gives e to a");
        Net net = new Net(3);
        for (int v = 0; v < 2; v++) {
            net.gives(v, 0, 1 - v);
            net.gives(v, 1, 2);
            net.runs(v, GET, 1, SEND, 0);
        }
        net.delivers(0, 2, GIFT);
        net.delivers(1, 0, CALL);
        net.delivers(0, 2, REDEEM);
        pairs(net, 1, 1, 1);
        due("x for vat 0", net.exported(3, 0), 1);
        net.delivers(1, 2, GIFT);
        pairs(net, 1, 0, 1);
        due("x for vat 0", net.exported(3, 0), 2);
        net.delivers(0, 1, CALL);
        net.delivers(1, 2, REDEEM);
        pairs(net, 0, 0, 2);
    }

    private static void inOrder() {
        sentence("MESSAGES from vat a to vat b are delivered in the order in which they were sent");
        Net net = Net.knownByFirst(3);
        net.program(1, OUT, 0);
        net.program(0, SEND, 0);
        net.run(0, 1);
        net.sweeps(0, 0);
        net.program(0, GET, 0, SEND, 1);
        net.run(0, 2);
        net.program(0, SEND, 0, SET, 4, NIL, 0, SEND, 0);
        net.run(0, 3);
        due("messages", net.flying(0, 1), 5);
        net.delivers(0, 2, CALL);
        net.delivers(0, 1, CALL, RELEASE, GIFT, CALL, CALL, 0);
        for (int i = 0; i < 3; i++) {
            net.turns(1, 2);
        }
        int[] values = {4, 3, 1};
        for (int k = 0; k < values.length; k++) {
            due("values of the calls", net.output(1, k), values[k]);
        }
    }

    private static void argumentOfCallFirst() {
        sentence("When delivered, the argument .. travels first: of a CALL that is sent on");
        Net net = Net.knownByFirst(3);
        net.gives(1, 0, 2);
        net.runs(0, SEND, 0, PUT, 2);
        net.delivers(0, 1, CALL);
        net.program(1, GET, 0);
        net.turns(1, 2);
        due("resolved to the root of vat 2", net.resolved(101), 3);
        net.runs(0, GET, 1, SEND, 2);
        net.delivers(0, 1, CALL);
        due("messages", net.flying(1, 2), 2);
        net.delivers(1, 2, REDEEM, CALL);
    }

    private static void argumentOfResolveFirst() {
        sentence("When delivered, the argument .. travels first: of a RESOLVE");
        Net net = Net.knownByFirst(3);
        net.runs(0, SELF, 0, SEND, 0, PUT, 2);
        net.delivers(0, 1, CALL);
        net.turns(1, 2);
        net.runs(0, NIL, 0, SEND, 2, PUT, 3, NIL, 0, SEND, 3);
        net.delivers(0, 1, CALL, CALL);
        due("a call waits at its answer", net.count(1, WAITING), 1);
        net.delivers(1, 0, CALL);
        net.program(0, GET, 1);
        net.turns(0, 1);
        net.delivers(0, 1, RESOLVE);
        due("resolved to the root of vat 2", net.resolved(102), 3);
        due("c", net.imported(1, 3), 1);
        due("messages", net.flying(1, 2), 2);
        net.delivers(1, 2, REDEEM, CALL);
    }

    private static void releaseByTheCount() {
        sentence("RELEASE: x of the entity for a goes down by the count");
        Net net = new Net(3);
        net.gives(2, 0, 1);
        for (int s = 0; s < 3; s++) {
            net.gives(0, s, 1);
        }
        for (int s = 0; s < 3; s++) {
            net.gives(0, s, 0);
        }
        net.sweeps(0, 0);
        due("one message", net.flying(0, 1), 1);
        due("x before", net.exported(2, 0), 3);
        net.gives(0, 0, 1);
        due("x of a new reference", net.exported(2, 0), 4);
        net.delivers(0, 1, RELEASE);
        due("x", net.exported(2, 0), 1);
        due("c of the new reference", net.imported(0, 2), 1);
        due("x for another vat", net.exported(2, 2), 1);
    }

    public static void main(String[] args) {
        noImportAtZero();
        belowZero();
        putInAtHome();
        putInElsewhere();
        takenOut();
        noneTravels();
        travelsHome();
        whicheverComesFirst();
        bothAreGone();
        pairOfOneGiver();
        pairOfOneTaker();
        pairOfOneEntity();
        noPairTheOtherWay();
        inOrder();
        argumentOfCallFirst();
        argumentOfResolveFirst();
        releaseByTheCount();
        Check.end();
    }
}
