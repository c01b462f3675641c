import java.util.Map;
import java.util.Random;
import java.util.TreeMap;

/** Long runs of calls, the same at every start, held against VatModel after each call. */
public final class RandomRunsTest {
    private static final int RUNS = 1500;
    private static final String[] RARE = {
        "export below 0", "pair made", "lost at a full promise", "sent on to a promise here",
        "sent on to an object here", "sent on to another vat", "freed promise resolved",
        "resolved to itself", "resolved to a ring", "lost behind others", "lost by a loss"
    };
    private static final int[] OPS = {0, 1, 2, 3, 3, 3, 4, 4, 4, 5, 6, 7, 7, 7, 7, 8, 9, 10};

    private final Random random;
    private final VatModel model;
    private final PromiseVats vats;
    private final int run;
    private final StringBuilder told = new StringBuilder();

    private RandomRunsTest(int run) {
        this.run = run;
        random = new Random(run);
        int size = 1 + random.nextInt(5);
        model = new VatModel(size);
        vats = new PromiseVats(size);
    }

    private int any(int bound) {
        return random.nextInt(bound);
    }

    /** Nearly always a vat of the net. */
    private int anyVat() {
        return any(50) == 0 ? any(7) - 1 : any(model.size);
    }

    private void addCode() {
        int program = any(40) == 0 ? any(11) - 1 : any(5);
        int op = any(40) == 0 ? any(14) - 1 : OPS[any(OPS.length)];
        int x = op == 6 ? any(5) : op == 0 ? any(4) - 1 : any(20) == 0 ? any(11) - 1 : any(4);
        boolean want = model.code(program, op, x);
        due("code(" + program + ", " + op + ", " + x + ")", vats.code(program, op, x), want);
    }

    private void due(String call, boolean got, boolean want) {
        due(call, got ? 1 : 0, want ? 1 : 0);
    }

    private void due(String call, int got, int want) {
        told.append("  ").append(call).append(" = ").append(want).append('\n');
        Check.due("run " + run + ", " + call, got, want);
    }

    private void giveRoot() {
        int v = anyVat();
        int s = any(40) == 0 ? any(7) - 1 : any(4);
        int w = anyVat();
        due("give(" + v + ", " + s + ", " + w + ")", vats.give(v, s, w), model.give(v, s, w));
    }

    private void pokeRoot() {
        int v = anyVat();
        int value = any(3) - 1;
        due("poke(" + v + ", " + value + ")", vats.poke(v, value), model.poke(v, value));
    }

    private void deliverOne() {
        int a = anyVat();
        int b = anyVat();
        for (int i = 0; i < 6 && model.flying(a, b) == 0; i++) {
            a = anyVat();
            b = anyVat();
        }
        due("deliver(" + a + ", " + b + ")", vats.deliver(a, b), model.deliver(a, b));
    }

    private void turnOne() {
        int v = anyVat();
        due("turn(" + v + ")", vats.turn(v), model.turn(v));
    }

    private void sweepOne() {
        int v = anyVat();
        due("sweep(" + v + ")", vats.sweep(v), model.sweep(v));
    }

    private void changeProgram() {
        int program = any(10) == 0 ? any(10) - 1 : any(5);
        due("clear(" + program + ")", vats.clear(program), model.clear(program));
        for (int i = any(9); i > 0; i--) {
            addCode();
        }
    }

    /** Short programs that hand promises about: without them rings would hardly come up. */
    private void handAbout() {
        int program = any(model.size);
        int[][] bodies = {
            {4, any(4)}, {7, any(4), 3, any(4)}, {4, any(4), 7, any(4)}, {7, any(4), 7, any(4)},
            {7, any(4), 3, any(4), 7, any(4), 3, any(4)}
        };
        due("clear(" + program + ")", vats.clear(program), model.clear(program));
        int[] body = bodies[any(bodies.length)];
        for (int i = 0; i < body.length; i += 2) {
            boolean want = model.code(program, body[i], body[i + 1]);
            due("code(" + program + ", " + body[i] + ", " + body[i + 1] + ")",
                vats.code(program, body[i], body[i + 1]), want);
        }
    }

    private void step(int calmness) {
        int choice = any(calmness);
        if (run % 2 == 0 && any(4) == 0) {
            handAbout();
        } else if (choice == 0) {
            changeProgram();
        } else if (choice == 1) {
            sweepOne();
        } else if (choice == 2) {
            giveRoot();
        } else if (choice % 5 <= 1) {
            turnOne();
        } else if (choice % 5 <= 3) {
            deliverOne();
        } else {
            pokeRoot();
        }
    }

    private void compareVats() {
        for (int v = -1; v <= 4; v++) {
            for (int kind = -1; kind <= 8; kind++) {
                String call = "count(" + v + ", " + kind + ")";
                Check.due("run " + run + ", " + call, vats.count(v, kind), model.count(v, kind));
            }
            Check.due("run " + run + ", inbox(" + v + ")", vats.inbox(v), model.inbox(v));
            for (int b = -1; b <= 4; b++) {
                String call = "flying(" + v + ", " + b + ")";
                Check.due("run " + run + ", " + call, vats.flying(v, b), model.flying(v, b));
            }
            for (int k = -1; k <= 11; k++) {
                String call = "output(" + v + ", " + k + ")";
                Check.due("run " + run + ", " + call, vats.output(v, k), model.output(v, k));
            }
        }
    }

    private void compareEntity(int e) {
        String text = "run " + run + ", entity " + e + ": ";
        Check.due(text + "home", vats.home(e), model.home(e));
        Check.due(text + "number", vats.number(e), model.number(e));
        Check.due(text + "resolved", vats.resolved(e), model.resolved(e));
        for (int s = -1; s <= 4; s++) {
            Check.due(text + "slot " + s, vats.slot(e, s), model.slot(e, s));
            Check.due(text + "imported by " + s, vats.imported(s, e), model.imported(s, e));
            Check.due(text + "exported to " + s, vats.exported(e, s), model.exported(e, s));
        }
    }

    private void compare() {
        compareVats();
        for (int e : model.entities.keySet()) {
            compareEntity(e);
        }
    }

    private void play() {
        int calmness = 12 + any(150);
        for (int i = 12 + any(28); i > 0; i--) {
            addCode();
        }
        for (int i = 0; i < 10; i++) {
            giveRoot();
        }
        for (int i = 0; i < 350 && !Check.anyWrong(); i++) {
            step(calmness);
            if (i % 4 == 0) {
                compare();
            }
        }
        for (int e = -2; e <= 205; e++) {
            compareEntity(e);
        }
        if (Check.anyWrong()) {
            System.out.println("The run, with the answers that are due:\n" + told);
        }
    }

    public static void main(String[] args) {
        TreeMap<String, Integer> met = new TreeMap<>();
        for (int run = 0; run < RUNS && !Check.anyWrong(); run++) {
            RandomRunsTest test = new RandomRunsTest(run);
            test.play();
            for (Map.Entry<String, Integer> entry : test.model.met.entrySet()) {
                met.merge(entry.getKey(), entry.getValue(), Integer::sum);
            }
        }
        System.out.println(met);
        if (!Check.anyWrong()) {
            for (String rule : RARE) {
                Check.due("whether a run met: " + rule, met.containsKey(rule), true);
            }
        }
        Check.end();
    }
}
