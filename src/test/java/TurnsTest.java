/** The sentences of "Terms" about turns and instructions, one by one. */
public final class TurnsTest extends Sentences {
    private static final int[] VALUES = {MIN, MIN + 1, -2, -1, 1, 2, MAX - 1, MAX};

    private static void firstCall() {
        sentence("A TURN of a vat takes the first call from its inbox");
        Net net = new Net(2);
        net.program(0, OUT, 0);
        for (int i = 1; i <= 3; i++) {
            net.pokes(0, i);
        }
        for (int i = 1; i <= 3; i++) {
            net.turns(0, 1);
            due("value", net.output(0, 0), i);
            due("inbox", net.inbox(0), 3 - i);
        }
        net.turns(0, -1);
        due("outputs", net.count(0, OUTPUTS), 3);
    }

    private static void programAsItIsThen() {
        sentence("runs the program of its target as it is then");
        Net net = new Net(2);
        net.program(0, SET, 1, OUT, 0);
        net.pokes(0, 0);
        net.program(0, SET, 2, OUT, 0);
        net.turns(0, 1);
        due("the later program", net.output(0, 0), 2);
        net.runs(0, NEW, 5, PUT, 0, SEND, 0);
        net.program(5, SET, 3, OUT, 0);
        net.turns(0, 3);
        due("a program written after the call was sent", net.output(0, 0), 3);
        net.pokes(0, 0);
        net.program(0);
        net.turns(0, 1);
        due("a program that was emptied", net.count(0, OUTPUTS), 2);
    }

    private static void valueAndArgument() {
        sentence("with V the value and R the argument");
        Net net = new Net(2);
        net.gives(0, 0, 0);
        for (int value : VALUES) {
            net.program(0, SELF, 0, SEND, 0);
            net.run(0, value);
            net.program(0, OUT, 0, PUT, 1);
            net.turns(0, 1);
            due("V", net.output(0, 0), value);
            due("R", net.slot(1, 1), 1);
            net.run(0, value);
            due("R of a call that was poked", net.slot(1, 1), 0);
        }
    }

    private static void set() {
        sentence("0 SET x  V becomes x");
        Net net = new Net(2);
        for (int value : VALUES) {
            net.program(0, SET, value, OUT, 0);
            net.run(0, 5);
            due("V", net.output(0, 0), value);
        }
        net.program(0, SET, 0, OUT, 0);
        net.run(0, 5);
        due("V", net.output(0, 0), 0);
        due("the number of the object", net.number(1), 0);
    }

    private static void addOf(int number, int value, int sum) {
        Net net = new Net(2);
        net.program(0, KEEP, 0);
        net.run(0, number);
        net.program(0, ADD, 0, OUT, 0);
        net.run(0, value);
        due(value + " + " + number, net.output(0, 0), sum);
        due("the number is as it was", net.number(1), number);
    }

    private static void add() {
        sentence("1 ADD  V becomes V + the object's number (wraps)");
        addOf(3, 4, 7);
        addOf(0, MIN, MIN);
        addOf(-5, 5, 0);
        addOf(1, MAX, MIN);
        addOf(MAX, 1, MIN);
        addOf(MAX, MAX, -2);
        addOf(-1, MIN, MAX);
        addOf(MIN, -1, MAX);
        addOf(MIN, MIN, 0);
    }

    private static void keep() {
        sentence("2 KEEP  the object's number becomes V");
        Net net = new Net(2);
        net.program(0, KEEP, 0, OUT, 0);
        for (int value : VALUES) {
            net.run(0, value);
            due("number", net.number(1), value);
            due("V is as it was", net.output(0, 0), value);
            due("number of another", net.number(2), 0);
        }
        net.run(0, 0);
        due("number", net.number(1), 0);
    }

    private static void putAndGet() {
        sentence("3 PUT x  slot x becomes R      4 GET x  R becomes slot x");
        for (int s = 0; s < 4; s++) {
            Net net = new Net(4);
            for (int t = 0; t < 4; t++) {
                net.gives(0, t, t);
            }
            int other = (s + 1) % 4;
            net.runs(0, GET, s, PUT, other);
            for (int t = 0; t < 4; t++) {
                due("slot " + t, net.slot(1, t), t == other ? s + 1 : t + 1);
            }
            net.runs(0, PUT, s);
            for (int t = 0; t < 4; t++) {
                due("slot " + t, net.slot(1, t), t == s ? 0 : t == other ? s + 1 : t + 1);
            }
            net.runs(0, SELF, 0, GET, s, PUT, other);
            due("R became none", net.slot(1, other), 0);
            due("imports are as they were", net.count(0, IMPORTS), 3);
        }
    }

    private static void self() {
        sentence("5 SELF  R becomes the object");
        Net net = new Net(2);
        net.runs(1, NEW, 5, PUT, 0, SEND, 0);
        net.program(5, SELF, 0, PUT, 3);
        net.turns(1, 3);
        net.slots(3, 0, 0, 0, 3);
        net.runs(1, SELF, 0, PUT, 2);
        due("of the root", net.slot(2, 2), 2);
    }

    private static void newOfEachProgram() {
        sentence("6 NEW x  a new object of program x, at home in this vat, with the number V ..");
        for (int x = 0; x < 8; x++) {
            Net net = new Net(2);
            net.gives(1, 2, 0);
            net.program(1, GET, 2, NEW, x, PUT, 1, OUT, 0);
            net.run(1, -6);
            due("R", net.slot(2, 1), 3);
            due("home", net.home(3), 1);
            due("number", net.number(3), -6);
            net.slots(3, 1, 0, 0, 0);
            due("V is as it was", net.output(1, 0), -6);
            net.runs(1, SEND, 1);
            net.program(x, SET, 200 + x, OUT, 0);
            net.turns(1, 3);
            due("its program", net.output(1, 0), 200 + x);
        }
    }

    /** The number of objects that there can be is made in vat 0; R of the last goes into slot 3. */
    private static Net sixtyObjects() {
        Net net = Net.knownByFirst(2);
        net.program(0, NEW, 7, NEW, 7, NEW, 7, NEW, 7, NEW, 7, NEW, 7, NEW, 7, PUT, 3);
        for (int i = 1; i <= 8; i++) {
            net.run(0, 0);
            due("made", net.slot(1, 3), 2 + 7 * i);
        }
        net.runs(0, NEW, 7, PUT, 3);
        due("object 59", net.slot(1, 3), 59);
        net.run(0, 0);
        due("object 60", net.slot(1, 3), 60);
        return net;
    }

    private static void newAfterSixty() {
        sentence("(if 60 were made: R becomes none)");
        Net net = sixtyObjects();
        net.program(0, SELF, 0, NEW, 7, PUT, 3, OUT, 0, SET, 5, OUT, 0);
        net.run(0, 44);
        net.slots(1, 2, 0, 0, 0);
        due("V is as it was", net.output(0, 1), 44);
        due("the turn goes on", net.output(0, 0), 5);
        due("no object 61", net.home(61), -1);
        due("objects", net.count(0, OBJECTS), 59);
        due("number", net.number(1), 0);
        net.program(1, NEW, 7, PUT, 3);
        net.gives(1, 3, 0);
        net.run(1, 0);
        due("nor in another vat", net.slot(2, 3), 0);
    }

    private static void sendToNone() {
        sentence("SEND x: if slot x is none .. only R becomes none");
        for (int x = 0; x < 4; x++) {
            Net net = new Net(2);
            for (int s = 0; s < 4; s++) {
                net.gives(0, s, 0);
            }
            net.runs(0, PUT, x);
            net.program(0, KEEP, 0, SELF, 0, SEND, x, PUT, (x + 1) % 4, OUT, 0);
            net.run(0, 9);
            due("R", net.slot(1, (x + 1) % 4), 0);
            due("V is as it was", net.output(0, 0), 9);
            due("no promise", net.home(101), -1);
            due("no call", net.inbox(0) + net.flying(0, 1), 0);
            net.counts(0, 1, 0, 0, 0, 0, 0, 0, 1);
            net.gives(0, 0, 0);
            net.runs(0, SEND, 0);
            due("the next promise is the first", net.home(101), 0);
        }
    }

    private static void sendAfterHundred() {
        sentence("SEND x: if .. 100 promises were made, only R becomes none");
        Net net = Net.knownByFirst(2);
        net.program(0, SEND, 0, SEND, 0, SEND, 0, SEND, 0, SEND, 0, NIL, 0, PUT, 1);
        for (int i = 0; i < 19; i++) {
            net.run(0, 0);
        }
        net.runs(0, SEND, 0, SEND, 0, SEND, 0, SEND, 0, PUT, 1);
        due("promise 199", net.slot(1, 1), 199);
        net.runs(0, SEND, 0, PUT, 1);
        due("promise 200", net.slot(1, 1), 200);
        due("calls", net.flying(0, 1), 100);
        int imports = net.count(0, IMPORTS);
        net.program(0, NEW, 7, PUT, 2, SEND, 0, PUT, 1, OUT, 0, GET, 2, SEND, 1, PUT, 3);
        net.run(0, 8);
        net.slots(1, 2, 0, 3, 0);
        due("V is as it was", net.output(0, 0), 8);
        due("no call", net.flying(0, 1), 100);
        due("the argument has not travelled", net.exported(3, 1), 0);
        due("imports", net.count(0, IMPORTS), imports);
        due("no promise 201", net.home(201), -1);
        net.gives(0, 1, 0);
        net.runs(0, SELF, 0, SEND, 1, PUT, 3);
        due("nor of one at home", net.inbox(0) + net.slot(1, 3), 0);
        due("no promise 201", net.home(201), -1);
    }

    private static void sendHere() {
        sentence("SEND x: a promise p is made .. arrives in this vat, if t is at home here");
        Net net = new Net(2);
        net.gives(0, 2, 0);
        net.program(0, SELF, 0, SEND, 2, PUT, 1, OUT, 0);
        net.run(0, 12);
        due("R becomes p", net.slot(1, 1), 101);
        due("V is as it was", net.output(0, 0), 12);
        due("home of p", net.home(101), 0);
        due("open", net.resolved(101), -1);
        due("no x", net.exported(101, 0) + net.exported(101, 1), 0);
        due("no c", net.imported(0, 101) + net.imported(1, 101), 0);
        due("in the inbox", net.inbox(0), 1);
        due("no message", net.flying(0, 1), 0);
        net.program(0, OUT, 0, PUT, 3);
        net.turns(0, 1);
        due("value", net.output(0, 0), 12);
        due("the argument is R as it was before", net.slot(1, 3), 1);
        due("answer", net.resolved(101), 1);
    }

    private static void sendAway() {
        sentence("SEND x: otherwise .. x of p for this vat becomes 1 and c of p in this vat 1");
        Net net = Net.knownByFirst(3);
        net.runs(0, SEND, 1, PUT, 2, SEND, 2);
        for (int p = 101; p <= 102; p++) {
            due("home of p: where the target is", net.home(p), 2);
            due("x of p for this vat", net.exported(p, 0), 1);
            due("x of p for another", net.exported(p, 1) + net.exported(p, 2), 0);
            due("c of p in this vat", net.imported(0, p), 1);
            due("c of p in another", net.imported(1, p) + net.imported(2, p), 0);
        }
        due("R becomes p", net.slot(1, 2), 101);
        due("messages", net.flying(0, 2), 2);
        due("no others", net.flying(0, 1) + net.inbox(0), 0);
        net.delivers(0, 2, CALL, CALL);
        due("a call of the promise waits there", net.count(2, WAITING), 1);
    }

    private static void sendFromEachSlot() {
        sentence("the target t, the entity in slot x");
        for (int x = 0; x < 4; x++) {
            Net net = new Net(4);
            for (int s = 0; s < 4; s++) {
                net.gives(0, s, s);
            }
            net.runs(0, SEND, x);
            due("home of p", net.home(101), x);
            due("inbox", net.inbox(0), x == 0 ? 1 : 0);
            for (int b = 1; b < 4; b++) {
                due("messages", net.flying(0, b), b == x ? 1 : 0);
            }
        }
    }

    private static void skipIfZero() {
        sentence("8 SKIP x  if V is 0, the next x instructions are left out");
        Net net = new Net(2);
        net.program(0, SKIP, 1, SET, 7, OUT, 0);
        for (int value : VALUES) {
            net.run(0, value);
            due("V is " + value, net.output(0, 0), 7);
        }
        net.run(0, 0);
        due("V is 0", net.output(0, 0), 0);
        net.program(0, KEEP, 0);
        net.run(0, MIN);
        net.program(0, ADD, 0, SKIP, 1, SET, 7, OUT, 0);
        net.run(0, MIN);
        due("V has become 0", net.output(0, 0), 0);
        net.program(0, SET, 1, SKIP, 1, SET, 7, OUT, 0);
        net.run(0, 0);
        due("V was 0", net.output(0, 0), 7);
    }

    private static void skipEachLength() {
        sentence("8 SKIP x  .. the next x instructions are left out, for each x");
        for (int x = 0; x < 8; x++) {
            Net net = new Net(2);
            net.program(0, SKIP, x, OUT, 0, OUT, 0, OUT, 0, OUT, 0, OUT, 0, OUT, 0, OUT, 0);
            net.run(0, 0);
            due("put out after SKIP " + x, net.count(0, OUTPUTS), 7 - x);
            net.run(0, 1);
            due("put out after no SKIP", net.count(0, OUTPUTS), 14 - x);
        }
    }

    private static void skipFewer() {
        sentence("8 SKIP x  .. (fewer if there are not so many)");
        Net net = new Net(2);
        net.gives(0, 0, 0);
        net.program(0, SKIP, 7, OUT, 0);
        net.run(0, 0);
        due("put out", net.count(0, OUTPUTS), 0);
        net.program(0, OUT, 0, OUT, 0);
        net.run(0, 0);
        due("none is left out in the next turn", net.count(0, OUTPUTS), 2);
        net.program(0, OUT, 0, SKIP, 7);
        net.run(0, 0);
        due("as the last instruction", net.count(0, OUTPUTS), 3);
        net.runs(0, SELF, 0, SEND, 0);
        net.program(0, SKIP, 5, NIL, 0);
        net.turns(0, 1);
        due("the answer is resolved after it", net.resolved(101), 1);
    }

    private static void skipOfSkip() {
        sentence("8 SKIP x  .. left out: so is a SKIP");
        Net net = new Net(2);
        net.program(0, SKIP, 2, OUT, 0, SKIP, 3, OUT, 0, OUT, 0);
        net.run(0, 0);
        due("put out", net.count(0, OUTPUTS), 2);
        net.program(0, SKIP, 1, OUT, 0, SKIP, 1, OUT, 0, OUT, 0);
        net.run(0, 0);
        due("put out", net.count(0, OUTPUTS), 3);
    }

    private static void out() {
        sentence("9 OUT  V is put out");
        Net net = new Net(2);
        net.program(1, OUT, 0);
        for (int value : VALUES) {
            net.run(1, value);
            due("the latest", net.output(1, 0), value);
        }
        due("outputs", net.count(1, OUTPUTS), VALUES.length);
        due("outputs of another vat", net.count(0, OUTPUTS), 0);
        net.program(1, OUT, 0, OUT, 0, OUT, 0, OUT, 0, OUT, 0, OUT, 0, OUT, 0, OUT, 0);
        net.run(1, 3);
        due("eight in a turn", net.count(1, OUTPUTS), VALUES.length + 8);
    }

    private static void none() {
        sentence("10 NONE  R becomes none.");
        Net net = new Net(2);
        net.program(0, SELF, 0, PUT, 0, PUT, 1, NIL, 0, PUT, 0, OUT, 0);
        net.run(0, 4);
        net.slots(1, 0, 1, 0, 0);
        due("V is as it was", net.output(0, 0), 4);
    }

    private static void anyInt() {
        sentence("Elsewhere x may be any int; it says something for SET alone");
        int[] xs = {MIN, -1, 0, 1, 7, 8, MAX};
        for (int x : xs) {
            Net net = new Net(2);
            net.program(0, ADD, x, KEEP, x, SELF, x, PUT, 0, NIL, x, PUT, 1, OUT, x);
            net.run(0, 21);
            due("OUT", net.output(0, 0), 21);
            due("outputs", net.count(0, OUTPUTS), 1);
            due("KEEP", net.number(1), 21);
            net.slots(1, 1, 0, 0, 0);
            net.run(0, 21);
            due("ADD", net.output(0, 0), 42);
        }
    }

    private static void answerAtTheEnd() {
        sentence("After the last instruction the call's answer, if it has one, is resolved .. to R");
        Net net = new Net(2);
        net.gives(0, 0, 0);
        net.runs(0, SELF, 0, SEND, 0);
        net.program(0);
        net.turns(0, 1);
        due("of an empty program: the argument", net.resolved(101), 1);
        net.runs(0, SELF, 0, SEND, 0);
        net.program(0, NIL, 0);
        net.turns(0, 1);
        due("none", net.resolved(102), 0);
        net.runs(0, SELF, 0, SEND, 0);
        net.program(0, NEW, 7, NIL, 0, NEW, 7);
        net.turns(0, 1);
        due("R at the end", net.resolved(103), 4);
        net.runs(0, NIL, 0, SEND, 0);
        net.program(0, SEND, 0);
        net.turns(0, 1);
        due("the promise of a call that is sent last", net.resolved(104), 105);
        due("which is open", net.resolved(105), -1);
    }

    public static void main(String[] args) {
        firstCall();
        programAsItIsThen();
        valueAndArgument();
        set();
        add();
        keep();
        putAndGet();
        self();
        newOfEachProgram();
        newAfterSixty();
        sendToNone();
        sendAfterHundred();
        sendHere();
        sendAway();
        sendFromEachSlot();
        skipIfZero();
        skipEachLength();
        skipFewer();
        skipOfSkip();
        out();
        none();
        anyInt();
        answerAtTheEnd();
        Check.end();
    }
}
