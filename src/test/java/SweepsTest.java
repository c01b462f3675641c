/** The sentences of "Terms" about sweeps, one by one. */
public final class SweepsTest extends Sentences {
    private static void rootIsReached() {
        sentence("REACHED are: its root");
        Net net = new Net(4);
        for (int v = 0; v < 4; v++) {
            net.sweeps(v, 0);
            due("home", net.home(v + 1), v);
            due("no x", net.exported(v + 1, 0) + net.exported(v + 1, 3), 0);
        }
        net.gives(0, 0, 1);
        net.sweeps(0, 0);
        due("what is in its slots too", net.imported(0, 2), 1);
    }

    /** An object of vat 0 that only vat b has, as what its promise 101 is resolved to. */
    private static void heldByExport(int b) {
        sentence("the entities at home at v of which some x is above 0: for vat " + b);
        Net net = new Net(4);
        net.gives(0, 0, b);
        net.runs(0, NEW, 7, SEND, 0);
        due("x", net.exported(5, b), 1);
        net.sweeps(0, 0);
        due("home, while it is in flight", net.home(5), 0);
        net.delivers(0, b, CALL, RELEASE);
        net.turns(b, b + 1);
        net.sweeps(0, 0);
        due("home, while the other has it", net.home(5), 0);
        net.sweeps(b, 1);
        net.delivers(b, 0, RELEASE);
        due("x", net.exported(5, b), 0);
        due("home before the sweep", net.home(5), 0);
        net.sweeps(0, 1);
        due("freed", net.home(5), -1);
        due("number", net.number(5), 0);
    }

    /** Promise 101 of vat 2 was taken by vat 1 from vat 0 and given up before the gifts come. */
    private static void oneAboveOneBelow() {
        sentence("of which some x is above 0: though another is below 0");
        Net net = Net.knownByFirst(3);
        net.runs(0, SEND, 1, PUT, 2);
        net.delivers(0, 2, CALL);
        net.turns(2, 3);
        net.program(0, GET, 2, SEND, 0, GET, 2, SEND, 0);
        net.run(0, 0);
        net.delivers(0, 1, CALL, CALL);
        net.turns(1, 2, 2);
        net.sweeps(0, 0);
        net.delivers(0, 1, RELEASE, RELEASE);
        net.sweeps(1, 2);
        net.delivers(1, 2, REDEEM, REDEEM, RELEASE);
        due("x for vat 0", net.exported(101, 0), 1);
        due("x for vat 1", net.exported(101, 1), -2);
        net.sweeps(2, 0);
        due("home", net.home(101), 2);
        net.delivers(0, 2, GIFT, GIFT);
        due("x for vat 1", net.exported(101, 1), 0);
        net.runs(0, NIL, 0, PUT, 2);
        net.sweeps(0, 0);
        net.delivers(0, 2, RELEASE);
        due("x for vat 0", net.exported(101, 0), 0);
        net.sweeps(2, 1);
    }

    private static void heldByGift() {
        sentence("or of which a gift waits");
        Net net = new Net(3);
        net.gives(2, 0, 0);
        net.gives(0, 1, 1);
        net.runs(2, NEW, 7, SEND, 0);
        net.delivers(2, 0, CALL);
        net.program(0, SEND, 1, NIL, 0);
        net.turns(0, 1);
        net.sweeps(0, 0);
        net.delivers(0, 2, GIFT, RELEASE);
        due("x", net.exported(4, 0) + net.exported(4, 1), 0);
        due("the gift", net.count(2, GIFTS), 1);
        net.sweeps(2, 0);
        due("home", net.home(4), 2);
        net.delivers(0, 1, CALL);
        net.delivers(1, 2, REDEEM);
        due("no gift", net.count(2, GIFTS), 0);
        due("x", net.exported(4, 1), 1);
        net.sweeps(2, 0);
        net.delivers(0, 1, RELEASE);
        net.program(1, NIL, 0);
        net.turns(1, 2);
        net.sweeps(1, 1);
        net.delivers(1, 2, RELEASE);
        net.sweeps(2, 1);
        due("freed", net.home(4), -1);
    }

    private static void promiseHeldByGift() {
        sentence("or of which a gift waits: of a promise");
        Net net = Net.knownByFirst(3);
        net.runs(0, SEND, 1, SEND, 0);
        net.delivers(0, 2, CALL);
        net.program(2, NEW, 7);
        net.turns(2, 3);
        due("resolved", net.resolved(101), 4);
        net.sweeps(0, 0);
        net.delivers(0, 2, GIFT, RELEASE);
        due("x", net.exported(101, 0) + net.exported(101, 1), 0);
        net.sweeps(2, 0);
        due("home", net.home(101), 2);
        due("and what it is resolved to", net.home(4), 2);
    }

    private static void targetsInTheInbox() {
        sentence("targets .. of the calls in its inbox");
        Net net = new Net(2);
        net.runs(0, NEW, 7, PUT, 0, NIL, 0, SEND, 0, NIL, 0, PUT, 0);
        due("inbox", net.inbox(0), 1);
        net.sweeps(0, 1);
        due("the target", net.home(3), 0);
        due("not the answer", net.home(101), -1);
        net.turns(0, 3);
        net.sweeps(0, 1);
        due("after its turn", net.home(3), -1);
    }

    private static void argumentsInTheInbox() {
        sentence("targets and arguments of the calls in its inbox");
        Net net = Net.knownByFirst(2);
        net.gives(0, 1, 0);
        net.runs(0, NEW, 7, SEND, 1);
        net.sweeps(0, 1);
        due("the argument", net.home(3), 0);
        due("not the answer", net.home(101), -1);
        net.program(0, NIL, 0);
        net.turns(0, 1);
        net.sweeps(0, 1);
        due("after the turn", net.home(3), -1);

        net.runs(0, GET, 0, SEND, 1, NIL, 0, PUT, 0);
        net.sweeps(0, 1);
        due("an argument of another vat", net.imported(0, 2), 1);
        due("no release", net.flying(0, 1), 0);
        net.program(0, NIL, 0);
        net.turns(0, 1);
        net.sweeps(0, 0);
        due("after the turn", net.imported(0, 2), 0);
        net.delivers(0, 1, RELEASE);
    }

    /** A call with an object as its argument waits at promise 101; no slot has either of them. */
    private static Net waitingWithObject() {
        Net net = new Net(2);
        net.gives(0, 0, 0);
        net.runs(0, SEND, 0, PUT, 1, NEW, 7, SEND, 1, NIL, 0, PUT, 1);
        due("waiting", net.count(0, WAITING), 1);
        return net;
    }

    private static void promisesWithCalls() {
        sentence("open promises at home at v at which calls wait");
        Net net = waitingWithObject();
        net.sweeps(0, 1);
        due("the promise", net.home(101), 0);
        due("waiting", net.count(0, WAITING), 1);
        due("not the answer of the call", net.home(102), -1);
        net.program(0);
        net.turns(0, 1);
        due("resolved", net.resolved(101), 0);
        net.sweeps(0, 2);
        due("when no call waits", net.home(101), -1);

        net = new Net(2);
        net.gives(0, 0, 0);
        net.runs(0, SEND, 0);
        net.sweeps(0, 1);
        due("an open promise at which none waits", net.home(101), -1);
    }

    private static void argumentsThatWait() {
        sentence("the arguments of calls that wait at a promise that is reached");
        Net net = waitingWithObject();
        net.sweeps(0, 1);
        due("the argument", net.home(3), 0);
        net.program(0);
        net.turns(0, 1);
        net.sweeps(0, 2);
        due("after the call was lost", net.home(3), -1);

        net = Net.knownByFirst(2);
        net.gives(0, 1, 0);
        net.runs(0, SEND, 1, PUT, 2, GET, 0, SEND, 2, NIL, 0, PUT, 0, PUT, 2);
        net.sweeps(0, 1);
        due("an argument of another vat", net.imported(0, 2), 1);
        due("no release", net.flying(0, 1), 0);
        net.program(0);
        net.turns(0, 1);
        net.sweeps(0, 1);
        due("after the call was lost", net.imported(0, 2), 0);
    }

    private static void slotsOfTheReached() {
        sentence("and further what is in a slot of an object that is reached");
        for (int s = 0; s < 4; s++) {
            Net net = Net.knownByFirst(2);
            net.runs(0, NEW, 5, PUT, 1, GET, 0, SEND, 1, NIL, 0, PUT, 0);
            net.program(5, PUT, s, NEW, 6, PUT, (s + 1) % 4, NIL, 0);
            net.turns(0, 3);
            net.sweeps(0, 1);
            due("an entity of another vat in slot " + s, net.imported(0, 2), 1);
            due("an object in another slot", net.home(4), 0);
            net.runs(0, NIL, 0, PUT, 1);
            net.sweeps(0, 2);
            due("the object is freed", net.home(3), -1);
            due("and what its slot had", net.home(4), -1);
            due("and released", net.imported(0, 2), 0);
            net.delivers(0, 1, RELEASE);
            due("x", net.exported(2, 0), 0);
        }
    }

    private static void longChain() {
        sentence("what is in a slot of an object that is reached: through all objects");
        Net net = Net.knownByFirst(2);
        net.runs(0, GET, 0, PUT, 1, NIL, 0, PUT, 0);
        net.program(0, GET, 1, NEW, 7, NEW, 7, NEW, 7, NEW, 7, NEW, 7, PUT, 1);
        for (int i = 0; i < 11; i++) {
            net.run(0, i);
        }
        net.runs(0, GET, 1, NEW, 7, NEW, 7, NEW, 7, PUT, 1);
        due("the last object", net.slot(1, 1), 60);
        net.sweeps(0, 0);
        due("the first of them", net.home(3), 0);
        due("and what it has", net.imported(0, 2), 1);
        net.runs(0, NIL, 0, PUT, 1);
        net.sweeps(0, 58);
        due("no import", net.count(0, IMPORTS), 0);
        net.counts(0, 1, 0, 0, 0);
    }

    private static void outcomeOfTheReached() {
        sentence("what a promise that is reached is resolved to");
        Net net = Net.knownByFirst(2);
        net.gives(0, 3, 0);
        net.runs(0, NEW, 7, SEND, 3, PUT, 1, GET, 0, SEND, 3, PUT, 2, NIL, 0, PUT, 0);
        net.program(0);
        net.turns(0, 1, 1);
        due("to an object", net.resolved(101), 3);
        due("to one of another vat", net.resolved(102), 2);
        net.sweeps(0, 0);
        due("the object", net.home(3), 0);
        due("the other", net.imported(0, 2), 1);
        net.runs(0, NIL, 0, PUT, 1, PUT, 2);
        net.sweeps(0, 3);
        due("freed", net.home(3), -1);
        due("released", net.imported(0, 2), 0);
    }

    private static void reachedFromOutside() {
        sentence("and further .. (what is reached by a count reaches more)");
        Net net = Net.knownByFirst(3);
        net.runs(0, GET, 1, NEW, 7, NEW, 7, SEND, 0, NIL, 0, PUT, 1);
        net.delivers(0, 1, CALL);
        net.sweeps(0, 0);
        due("the one that vat 1 has", net.home(5), 0);
        due("what is in its slot", net.home(4), 0);
        due("what is in the slot of that", net.imported(0, 3), 1);
        due("no release of it", net.flying(0, 2), 0);
    }

    private static void slotsOfOthers() {
        sentence("of an entity of another vat nothing more is looked at: slots");
        Net net = Net.knownByFirst(3);
        net.gives(1, 0, 2);
        net.gives(0, 1, 0);
        net.sweeps(0, 0);
        due("the object that is reached", net.imported(0, 2), 1);
        due("what is in its slot", net.imported(0, 3), 0);
        due("release", net.flying(0, 2), 1);
        due("its own vat has it", net.imported(1, 3), 1);
    }

    private static void outcomesOfOthers() {
        sentence("of an entity of another vat nothing more is looked at: what it is resolved to");
        Net net = Net.knownByFirst(3);
        net.gives(1, 0, 2);
        net.program(1, GET, 0);
        net.runs(0, SEND, 0, PUT, 2);
        net.delivers(0, 1, CALL);
        net.turns(1, 2);
        due("resolved", net.resolved(101), 3);
        net.gives(0, 1, 0);
        net.sweeps(0, 0);
        due("the promise that is reached", net.imported(0, 101), 1);
        due("what it is resolved to", net.imported(0, 3), 0);
    }

    private static void waitingAtOthers() {
        sentence("of an entity of another vat nothing more is looked at: calls that wait");
        Net net = Net.knownByFirst(3);
        net.runs(0, SEND, 0, PUT, 2, GET, 1, SEND, 2, NIL, 0, PUT, 1);
        net.delivers(0, 1, CALL, CALL);
        due("waiting", net.count(1, WAITING), 1);
        net.sweeps(0, 0);
        due("the promise that is reached", net.imported(0, 101), 1);
        due("the argument of the call that waits at it", net.imported(0, 3), 0);
        due("the vat where it waits", net.imported(1, 3), 1);
        net.sweeps(1, 0);
        due("has it still", net.imported(1, 3), 1);
    }

    private static void rings() {
        sentence("All entities at home at v that are not reached are FREED: rings too");
        Net net = new Net(2);
        net.gives(0, 3, 0);
        net.program(5, PUT, 1);
        net.runs(0, NEW, 5, PUT, 0, NEW, 5, SEND, 0, PUT, 1, NIL, 0, PUT, 1);
        net.turns(0, 3);
        due("the first has the second", net.slot(3, 1), 4);
        due("the second has the first", net.slot(4, 0), 3);
        net.sweeps(0, 1);
        due("only the answer", net.home(101), -1);
        net.runs(0, NIL, 0, PUT, 0);
        net.sweeps(0, 2);
        net.counts(0, 1, 0, 0);

        net.runs(0, SEND, 3, NEW, 5, SEND, 3, PUT, 0);
        net.program(0, NIL, 0);
        net.turns(0, 1);
        net.program(0);
        net.turns(0, 1);
        due("a promise of an object that has a promise", net.resolved(103), 5);
        due("which is this one", net.slot(5, 0), 102);
        net.sweeps(0, 0);
        net.runs(0, NIL, 0, PUT, 0);
        net.sweeps(0, 3);
    }

    private static void onlyAtHome() {
        sentence("All entities at home at v .. are FREED: no others");
        Net net = new Net(2);
        for (int v = 0; v < 2; v++) {
            net.gives(v, 0, v);
            net.runs(v, NEW, 7, NIL, 0, SEND, 0);
            net.program(v);
            net.turns(v, v + 1);
        }
        net.sweeps(0, 2);
        due("an object here", net.home(3), -1);
        due("a promise here", net.home(101), -1);
        due("an object elsewhere", net.home(4), 1);
        due("a promise elsewhere", net.home(102), 1);
        net.sweeps(0, 0);
        net.sweeps(1, 2);
        net.sweeps(1, 0);
    }

    /** Vat 0 came by its references to 2, 101, 3 and 103 in this order, and has no use of them. */
    private static Net unreachedImports() {
        Net net = Net.knownByFirst(2);
        net.gives(0, 1, 1);
        net.gives(1, 0, 0);
        net.runs(0, SEND, 0);
        net.runs(1, NEW, 7, PUT, 1, SEND, 0);
        net.delivers(1, 0, CALL);
        net.program(0, NIL, 0);
        net.turns(0, 1);
        due("object 3", net.imported(0, 3), 1);
        net.runs(0, SEND, 0);
        net.gives(0, 0, 0);
        net.gives(0, 1, 0);
        due("imports", net.count(0, IMPORTS), 4);
        due("calls", net.flying(0, 1), 2);
        return net;
    }

    private static void releasesInOrder() {
        sentence("Then, in the order of the entities' numbers, for every import .. a RELEASE");
        Net net = unreachedImports();
        net.sweeps(0, 0);
        due("messages", net.flying(0, 1), 6);
        net.delivers(0, 1, CALL, CALL);
        int[] entities = {2, 3, 101, 103};
        int[] counts = {2, 1, 1, 1};
        for (int i = 0; i < entities.length; i++) {
            for (int j = i; j < entities.length; j++) {
                due("x of " + entities[j], net.exported(entities[j], 0), counts[j]);
            }
            net.delivers(0, 1, RELEASE);
            due("x of " + entities[i], net.exported(entities[i], 0), 0);
        }
        net.delivers(0, 1, 0);
    }

    private static void importsNoMore() {
        sentence("a RELEASE with its count is sent .. and there is that import no more");
        Net net = unreachedImports();
        net.sweeps(0, 0);
        due("imports", net.count(0, IMPORTS), 0);
        int[] entities = {2, 3, 101, 103};
        for (int e : entities) {
            due("c of " + e, net.imported(0, e), 0);
        }
        net.sweeps(0, 0);
        due("no release again", net.flying(0, 1), 6);
        net.gives(0, 0, 1);
        due("a new import", net.imported(0, 2), 1);
        net.sweeps(0, 0);
        due("is kept", net.imported(0, 2), 1);
        due("no release of it", net.flying(0, 1), 6);
    }

    private static void releasesToEachHome() {
        sentence("a RELEASE .. is sent to the entity's home");
        Net net = Net.knownByFirst(4);
        for (int s = 0; s < 3; s++) {
            net.gives(0, s, 0);
        }
        net.sweeps(0, 0);
        for (int w = 1; w < 4; w++) {
            due("messages", net.flying(0, w), 1);
            due("x before", net.exported(w + 1, 0), 1);
            net.delivers(0, w, RELEASE);
            due("x", net.exported(w + 1, 0), 0);
        }
    }

    private static void nothingElseSent() {
        sentence("for every import of v whose entity is not reached (and no other)");
        Net net = Net.knownByFirst(3);
        net.gives(0, 1, 0);
        net.sweeps(0, 0);
        due("the one that is reached", net.flying(0, 1), 0);
        due("its c", net.imported(0, 2), 1);
        due("its x", net.exported(2, 0), 1);
        due("the one that is not", net.flying(0, 2), 1);
        due("messages of other vats", net.flying(1, 0) + net.flying(2, 0), 0);
    }

    public static void main(String[] args) {
        rootIsReached();
        heldByExport(1);
        heldByExport(2);
        heldByExport(3);
        oneAboveOneBelow();
        heldByGift();
        promiseHeldByGift();
        targetsInTheInbox();
        argumentsInTheInbox();
        promisesWithCalls();
        argumentsThatWait();
        slotsOfTheReached();
        longChain();
        outcomeOfTheReached();
        reachedFromOutside();
        slotsOfOthers();
        outcomesOfOthers();
        waitingAtOthers();
        rings();
        onlyAtHome();
        releasesInOrder();
        importsNoMore();
        releasesToEachHome();
        nothingElseSent();
        Check.end();
    }
}
