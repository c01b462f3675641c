import java.util.ArrayList;
import java.util.List;

/**
 * "A call that is refused, because there is no such vat, entity or the like, changes nothing": a net
 * in which calls were refused is held against one in which they were not made.
 */
public final class RefusalsTest extends Sentences {
    private static final int SIZE = 3;
    private static final int WAYS = 5;
    private static final int[] NO_VAT = {MIN, -1, SIZE, SIZE + 1, MAX};
    private static final int[] NO_SLOT = {MIN, -1, 4, 5, MAX};
    private static final int[] NO_KIND = {MIN, -1, 8, 9, MAX};
    private static final int[] NO_OUTPUT = {MIN, -1, 10, 11, MAX};
    private static final int[] NO_ENTITY = {MIN, -1, 0, 30, 61, 100, 130, 201, MAX};

    /**
     * Something of every kind is in this net. The inbox of vat 0 is full, that of vat 2 empty, and
     * program 1, which the call in the inbox of vat 1 will run, has all its instructions.
     */
    private static Net busyNet() {
        Net net = Net.knownByFirst(SIZE);
        net.gives(1, 0, 2);
        net.gives(2, 0, 0);
        net.program(0, NEW, 3, SEND, 0, PUT, 2, OUT, 0, GET, 1, SEND, 2, KEEP, 0, PUT, 3);
        net.run(0, 5);
        net.delivers(0, 1, CALL);
        net.program(1, NEW, 4, SEND, 0, PUT, 1);
        net.turns(1, 2);
        net.delivers(1, 2, CALL);
        net.program(2, SELF, 0, SEND, 0, PUT, 1);
        net.turns(2, 3);
        net.program(0, SEND, 2, SEND, 0, PUT, 2, SEND, 2, SEND, 2, NEW, 3, SET, 7, OUT, 0);
        net.run(0, 6);
        net.delivers(0, 1, CALL, CALL, CALL, CALL);
        net.delivers(0, 2, GIFT);
        net.sweeps(1, 0);
        net.program(1, SET, 9, ADD, 0, KEEP, 0, OUT, 0, SELF, 0, NEW, 4, PUT, 1, PUT, 2);
        net.program(4, OUT, 0);
        for (int i = 1; i <= 20; i++) {
            net.pokes(0, i % 3);
        }
        return net;
    }

    private static void askVats(Net net, List<Integer> answers) {
        for (int v = 0; v < SIZE; v++) {
            answers.add(net.inbox(v));
            for (int b = 0; b < SIZE; b++) {
                answers.add(net.flying(v, b));
            }
            for (int kind = 0; kind < 8; kind++) {
                answers.add(net.count(v, kind));
            }
            for (int k = 0; k < 10; k++) {
                answers.add(net.output(v, k));
            }
        }
    }

    private static void askEntities(Net net, List<Integer> answers) {
        for (int i = 0; i < 20; i++) {
            int e = i < 9 ? 1 + i : 92 + i;
            answers.add(net.home(e));
            answers.add(e < 100 ? net.number(e) : net.resolved(e));
            for (int v = 0; v < SIZE; v++) {
                answers.add(net.imported(v, e));
                answers.add(net.exported(e, v));
            }
            if (e < 100) {
                for (int s = 0; s < 4; s++) {
                    answers.add(net.slot(e, s));
                }
            }
        }
    }

    /** What the programs are shows in the turns, and what flies in the deliveries. */
    private static void goOn(Net net, List<Integer> answers) {
        for (int round = 0; round < 6; round++) {
            for (int v = 0; v < SIZE; v++) {
                answers.add(net.turn(v));
                answers.add(net.deliver(v, (v + 1) % SIZE));
                answers.add(net.deliver(v, (v + 2) % SIZE));
            }
        }
        for (int v = 0; v < SIZE; v++) {
            answers.add(net.sweep(v));
        }
    }

    private static void fillPrograms(Net net, List<Integer> answers) {
        for (int i = 0; i < 9; i++) {
            for (int p = 0; p < 8; p++) {
                answers.add(net.code(p, OUT, 0) ? 1 : 0);
            }
        }
        askVats(net, answers);
    }

    /** What a net answers, asked in one of several ways, as it has not calls enough for all. */
    private static List<Integer> answers(Net net, int way) {
        List<Integer> answers = new ArrayList<>();
        if (way == 4) {
            fillPrograms(net, answers);
        }
        if (way == 2 || way == 3 || way == 4) {
            goOn(net, answers);
        }
        if (way == 0 || way == 2 || way == 4) {
            askVats(net, answers);
        } else {
            askEntities(net, answers);
        }
        return answers;
    }

    private static void changeNothing(String name, int refusal, List<Ask> refused) {
        sentence("a " + name + " that is refused changes nothing");
        for (int way = 0; way < WAYS; way++) {
            Net net = busyNet();
            for (Ask ask : refused) {
                due(ask.text(), ask.of(net), refusal);
            }
            List<Integer> got = answers(net, way);
            List<Integer> want = answers(busyNet(), way);
            for (int i = 0; i < want.size(); i++) {
                due("asked the way " + way + ", answer " + i, got.get(i), want.get(i));
            }
        }
    }

    private static List<Ask> codes() {
        List<Ask> refused = new ArrayList<>();
        int[] noProgram = {MIN, -1, 8, MAX};
        int[] noOp = {MIN, -1, 11, MAX};
        for (int i = 0; i < 4; i++) {
            refused.add(new Ask("code", noProgram[i], OUT, 0));
            refused.add(new Ask("code", 2, noOp[i], 0));
        }
        int[] ops = {PUT, GET, SEND, NEW, SKIP};
        for (int op : ops) {
            refused.add(new Ask("code", 2, op, -1));
            refused.add(new Ask("code", 2, op, op == NEW || op == SKIP ? 8 : 4));
            refused.add(new Ask("code", 4, op, MAX));
        }
        for (int op = 0; op <= 10; op++) {
            refused.add(new Ask("code", 1, op, 3));
        }
        return refused;
    }

    private static List<Ask> clears() {
        List<Ask> refused = new ArrayList<>();
        int[] noProgram = {MIN, -8, -1, 8, 9, 11, MAX};
        for (int p : noProgram) {
            refused.add(new Ask("clear", p, 0, 0));
        }
        return refused;
    }

    private static List<Ask> gives() {
        List<Ask> refused = new ArrayList<>();
        for (int i = 0; i < NO_VAT.length; i++) {
            refused.add(new Ask("give", NO_VAT[i], 0, 1));
            refused.add(new Ask("give", 0, 0, NO_VAT[i]));
            refused.add(new Ask("give", 1, NO_SLOT[i], 0));
            refused.add(new Ask("give", 2, NO_SLOT[i], 2));
        }
        return refused;
    }

    /** A call with each wrong vat; b is its second argument. */
    private static List<Ask> ofNoVat(String method, int b) {
        List<Ask> refused = new ArrayList<>();
        for (int v : NO_VAT) {
            refused.add(new Ask(method, v, b, 0));
        }
        return refused;
    }

    private static List<Ask> pokes() {
        List<Ask> refused = ofNoVat("poke", 4);
        refused.add(new Ask("poke", 0, 4, 0));
        refused.add(new Ask("poke", 0, 0, 0));
        return refused;
    }

    private static List<Ask> turns() {
        List<Ask> refused = ofNoVat("turn", 0);
        refused.add(new Ask("turn", 2, 0, 0));
        return refused;
    }

    private static List<Ask> deliveries() {
        List<Ask> refused = ofNoVat("deliver", 1);
        for (int w : NO_VAT) {
            refused.add(new Ask("deliver", 0, w, 0));
            refused.add(new Ask("deliver", w, w, 0));
        }
        for (int v = 0; v < SIZE; v++) {
            refused.add(new Ask("deliver", v, v, 0));
        }
        refused.add(new Ask("deliver", 1, 0, 0));
        return refused;
    }

    private static List<Ask> vatQuestions() {
        List<Ask> refused = ofNoVat("flying", 0);
        refused.addAll(ofNoVat("inbox", 0));
        refused.addAll(ofNoVat("count", 0));
        refused.addAll(ofNoVat("output", 0));
        refused.addAll(ofNoVat("imported", 1));
        for (int i = 0; i < NO_VAT.length; i++) {
            refused.add(new Ask("flying", 0, NO_VAT[i], 0));
            refused.add(new Ask("exported", 2, NO_VAT[i], 0));
            refused.add(new Ask("count", 0, NO_KIND[i], 0));
            refused.add(new Ask("output", 0, NO_OUTPUT[i], 0));
            refused.add(new Ask("slot", 1, NO_SLOT[i], 0));
        }
        return refused;
    }

    private static List<Ask> entityQuestions() {
        List<Ask> refused = new ArrayList<>();
        for (int e : NO_ENTITY) {
            refused.add(new Ask("imported", 0, e, 0));
            refused.add(new Ask("exported", e, 0, 0));
            refused.add(new Ask("slot", e, 0, 0));
            refused.add(new Ask("number", e, 0, 0));
        }
        return refused;
    }

    private static List<Ask> entityQuestionsOfNone() {
        List<Ask> refused = new ArrayList<>();
        for (int e : NO_ENTITY) {
            refused.add(new Ask("home", e, 0, 0));
            refused.add(new Ask("resolved", e, 0, 0));
        }
        return refused;
    }

    /** The net that all this is asked of has to be as busy as is said of it. */
    private static void isBusy() {
        sentence("the net of these tests");
        Net net = busyNet();
        due("inbox of vat 0", net.inbox(0), 20);
        due("inbox of vat 1", net.inbox(1), 1);
        due("inbox of vat 2", net.inbox(2), 0);
        due("calls that wait", net.count(1, WAITING) > 0, true);
        due("gifts that wait", net.count(2, GIFTS), 1);
        for (int kind = 0; kind <= RESOLVED; kind++) {
            due("kind " + kind, net.count(0, kind) + net.count(1, kind) + net.count(2, kind) > 0,
                true);
        }
        due("messages to vat 2", net.flying(0, 2) + net.flying(1, 2) > 0, true);
        due("messages to vat 0", net.flying(2, 0) > 0, true);
        due("none from 1 to 0", net.flying(1, 0), 0);
    }

    public static void main(String[] args) {
        isBusy();
        changeNothing("code", 0, codes());
        changeNothing("clear", 0, clears());
        changeNothing("give", 0, gives());
        changeNothing("poke", 0, pokes());
        changeNothing("turn", -1, turns());
        changeNothing("deliver", 0, deliveries());
        changeNothing("sweep", -1, ofNoVat("sweep", 0));
        changeNothing("question about a vat", 0, vatQuestions());
        changeNothing("question about an entity", 0, entityQuestions());
        changeNothing("question for home or outcome", -1, entityQuestionsOfNone());
        Check.end();
    }
}
