/**
 * The program as the tests use it: it counts the calls, as the document promises nothing after the
 * 512th, and has the steps that most runs are made of.
 */
final class Net implements Face {
    static final int MOST_CALLS = 512;

    private final PromiseVats vats;
    private int calls = 0;

    Net(int size) {
        vats = new PromiseVats(size);
    }

    /** A net whose vat 0 knows the roots of the others: that of vat w is in its slot w - 1. */
    static Net knownByFirst(int size) {
        Net net = new Net(size);
        for (int w = 1; w < size; w++) {
            net.gives(0, w - 1, w);
        }
        return net;
    }

    /** The program, for one call more. */
    private PromiseVats next() {
        calls++;
        if (calls > MOST_CALLS) {
            throw new IllegalStateException("a test makes more calls than the document allows");
        }
        return vats;
    }

    int callsLeft() {
        return MOST_CALLS - calls;
    }

    @Override
    public boolean code(int program, int op, int x) {
        return next().code(program, op, x);
    }

    @Override
    public boolean clear(int program) {
        return next().clear(program);
    }

    @Override
    public boolean give(int v, int s, int w) {
        return next().give(v, s, w);
    }

    @Override
    public boolean poke(int v, int value) {
        return next().poke(v, value);
    }

    @Override
    public int turn(int v) {
        return next().turn(v);
    }

    @Override
    public int deliver(int a, int b) {
        return next().deliver(a, b);
    }

    @Override
    public int sweep(int v) {
        return next().sweep(v);
    }

    @Override
    public int flying(int a, int b) {
        return next().flying(a, b);
    }

    @Override
    public int inbox(int v) {
        return next().inbox(v);
    }

    @Override
    public int count(int v, int kind) {
        return next().count(v, kind);
    }

    @Override
    public int imported(int v, int e) {
        return next().imported(v, e);
    }

    @Override
    public int exported(int e, int b) {
        return next().exported(e, b);
    }

    @Override
    public int home(int e) {
        return next().home(e);
    }

    @Override
    public int slot(int e, int s) {
        return next().slot(e, s);
    }

    @Override
    public int number(int e) {
        return next().number(e);
    }

    @Override
    public int resolved(int e) {
        return next().resolved(e);
    }

    @Override
    public int output(int v, int k) {
        return next().output(v, k);
    }

    /** Makes a program anew from pairs of an instruction and its x. */
    void program(int program, int... pairs) {
        Check.due("clear(" + program + ")", clear(program), true);
        for (int i = 0; i + 1 < pairs.length; i += 2) {
            String call = "code(" + program + ", " + pairs[i] + ", " + pairs[i + 1] + ")";
            Check.due(call, code(program, pairs[i], pairs[i + 1]), true);
        }
    }

    void gives(int v, int s, int w) {
        Check.due("give(" + v + ", " + s + ", " + w + ")", give(v, s, w), true);
    }

    void pokes(int v, int value) {
        Check.due("poke(" + v + ", " + value + ")", poke(v, value), true);
    }

    /** Each next turn of the vat is one of these objects. */
    void turns(int v, int... objects) {
        for (int object : objects) {
            Check.due("turn(" + v + ")", turn(v), object);
        }
    }

    /** Pokes a root whose inbox is empty and lets it run. */
    void run(int v, int value) {
        Check.due("inbox(" + v + ") before", inbox(v), 0);
        pokes(v, value);
        turns(v, v + 1);
    }

    /** Writes a program for the root of a vat whose inbox is empty, and lets it run with value 0. */
    void runs(int v, int... pairs) {
        program(v, pairs);
        run(v, 0);
    }

    /** Delivers messages of which these are the kinds. */
    void delivers(int a, int b, int... kinds) {
        for (int kind : kinds) {
            Check.due("deliver(" + a + ", " + b + ")", deliver(a, b), kind);
        }
    }

    void deliverAll(int a, int b, int kind) {
        for (int i = flying(a, b); i > 0; i--) {
            delivers(a, b, kind);
        }
    }

    void sweeps(int v, int freed) {
        Check.due("sweep(" + v + ")", sweep(v), freed);
    }

    /** The answers of count for the kinds 0, 1, .. */
    void counts(int v, int... wants) {
        for (int kind = 0; kind < wants.length; kind++) {
            Check.due("count(" + v + ", " + kind + ")", count(v, kind), wants[kind]);
        }
    }

    void slots(int e, int... wants) {
        for (int s = 0; s < wants.length; s++) {
            Check.due("slot(" + e + ", " + s + ")", slot(e, s), wants[s]);
        }
    }
}
