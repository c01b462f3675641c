import java.util.ArrayList;
import java.util.Collections;
import java.util.List;
import java.util.Map;
import java.util.Random;
import java.util.TreeMap;

/**
 * Long runs of calls, the same at every start, of which VatModel tells the answers. Each run is
 * played on several new nets, with other questions in between, as one net has but 512 calls.
 */
public final class RandomRunsTest {
    private static final int RUNS = 3000;
    private static final int NETS = 8;
    private static final String[] RARE = {
        "export below 0", "pair made", "lost at a full promise", "sent on to a promise here",
        "sent on to an object here", "sent on to another vat", "freed promise resolved",
        "resolved to itself", "resolved to a ring", "lost behind others", "lost by a loss"
    };
    private static final int[] OPS = {0, 1, 2, 3, 3, 3, 4, 4, 4, 5, 6, 7, 7, 7, 7, 8, 9, 10};
    private static final String[] ABOUT_ENTITIES = {
        "imported", "exported", "home", "slot", "number", "resolved"
    };

    private final Random random;
    private final VatModel model;
    private final int run;
    private final int size;
    /** For each net its calls, and the answers that are due. */
    private final List<List<Ask>> asks = new ArrayList<>();
    private final List<List<Integer>> dues = new ArrayList<>();
    private int steps = 0;

    private RandomRunsTest(int run) {
        this.run = run;
        random = new Random(run);
        size = 1 + random.nextInt(5);
        model = new VatModel(size);
        for (int net = 0; net < NETS; net++) {
            asks.add(new ArrayList<>());
            dues.add(new ArrayList<>());
        }
    }

    private int any(int bound) {
        return random.nextInt(bound);
    }

    /** Nearly always a vat of the net. */
    private int anyVat() {
        return any(50) == 0 ? any(7) - 1 : any(model.size);
    }

    private int anyEntity() {
        if (any(30) == 0) {
            return any(210) - 3;
        }
        List<Integer> made = new ArrayList<>(model.entities.keySet());
        return made.get(any(made.size()));
    }

    /** A call that changes the net is part of the run on every net. */
    private void step(String method, int a, int b, int c) {
        Ask ask = new Ask(method, a, b, c);
        int due = ask.of(model);
        steps++;
        for (int net = 0; net < NETS; net++) {
            asks.get(net).add(ask);
            dues.get(net).add(due);
        }
    }

    private void question(int net, Ask ask) {
        asks.get(net).add(ask);
        dues.get(net).add(ask.of(model));
    }

    private void anyQuestion(int net) {
        int kind = any(12);
        if (kind == 0) {
            question(net, new Ask("flying", anyVat(), anyVat(), 0));
        } else if (kind == 1) {
            question(net, new Ask("inbox", anyVat(), 0, 0));
        } else if (kind <= 4) {
            question(net, new Ask("count", anyVat(), any(30) == 0 ? any(12) - 2 : any(8), 0));
        } else if (kind == 5) {
            question(net, new Ask("output", anyVat(), any(12) - 1, 0));
        } else {
            question(net, aboutEntity(ABOUT_ENTITIES[kind - 6], anyEntity()));
        }
    }

    private Ask aboutEntity(String method, int e) {
        if (method.equals("imported")) {
            return new Ask(method, anyVat(), e, 0);
        }
        return new Ask(method, e, any(20) == 0 ? any(7) - 1 : any(4), 0);
    }

    private void addCode() {
        int program = any(40) == 0 ? any(11) - 1 : any(5);
        int op = any(40) == 0 ? any(14) - 1 : OPS[any(OPS.length)];
        int x = op == 6 ? any(5) : op == 0 ? any(4) - 1 : any(20) == 0 ? any(11) - 1 : any(4);
        step("code", program, op, x);
    }

    private void giveRoot() {
        step("give", anyVat(), any(40) == 0 ? any(7) - 1 : any(4), anyVat());
    }

    private void deliverOne() {
        int a = anyVat();
        int b = anyVat();
        for (int i = 0; i < 6 && model.flying(a, b) == 0; i++) {
            a = anyVat();
            b = anyVat();
        }
        step("deliver", a, b, 0);
    }

    private void changeProgram() {
        step("clear", any(10) == 0 ? any(10) - 1 : any(5), 0, 0);
        for (int i = any(9); i > 0; i--) {
            addCode();
        }
    }

    /** Short programs that hand promises about: without them rings would hardly come up. */
    private void handAbout() {
        int program = any(model.size);
        int[][] bodies = {
            {4, any(4)}, {7, any(4), 3, any(4)}, {4, any(4), 7, any(4)}, {7, any(4), 7, any(4)},
            {7, any(4), 3, any(4), 7, any(4), 3, any(4)}
        };
        step("clear", program, 0, 0);
        int[] body = bodies[any(bodies.length)];
        for (int i = 0; i < body.length; i += 2) {
            step("code", program, body[i], body[i + 1]);
        }
    }

    private void anyStep(int calmness) {
        int choice = any(calmness);
        if (run % 2 == 0 && any(8) == 0) {
            handAbout();
        } else if (choice == 0) {
            changeProgram();
        } else if (choice == 1) {
            step("sweep", anyVat(), 0, 0);
        } else if (choice == 2) {
            giveRoot();
        } else if (choice % 5 <= 1) {
            step("turn", anyVat(), 0, 0);
        } else if (choice % 5 <= 3) {
            deliverOne();
        } else {
            step("poke", anyVat(), any(3) - 1, 0);
        }
    }

    private void makeRun() {
        int calmness = 12 + any(150);
        int most = 150 + any(320);
        for (int i = 12 + any(28); i > 0; i--) {
            addCode();
        }
        for (int i = 0; i < 10; i++) {
            giveRoot();
        }
        while (steps < most) {
            anyStep(calmness);
            for (int net = 0; net < NETS; net++) {
                int asked = asks.get(net).size() - steps;
                // Half of what the steps leave room for; the other half is for the end.
                if (asked < (Net.MOST_CALLS - most - 10) / 2 && any(most) < Net.MOST_CALLS - most) {
                    anyQuestion(net);
                }
            }
        }
        askAtTheEnd();
    }

    private void askAtTheEnd() {
        List<Ask> all = allQuestions();
        Collections.shuffle(all, random);
        int next = 0;
        for (int net = 0; net < NETS; net++) {
            while (asks.get(net).size() < Net.MOST_CALLS) {
                question(net, all.get(next % all.size()));
                next++;
            }
        }
    }

    private List<Ask> allQuestions() {
        List<Ask> all = new ArrayList<>();
        for (int v = 0; v < model.size; v++) {
            all.add(new Ask("inbox", v, 0, 0));
            for (int i = 0; i < 8; i++) {
                all.add(new Ask("flying", v, i % 4, 0));
                all.add(new Ask("count", v, i, 0));
                all.add(new Ask("output", v, i, 0));
            }
        }
        for (int e : model.entities.keySet()) {
            all.add(new Ask("home", e, 0, 0));
            all.add(new Ask(e > 100 ? "resolved" : "number", e, 0, 0));
            for (int i = 0; i < 4; i++) {
                all.add(new Ask("exported", e, i, 0));
                all.add(new Ask("imported", i, e, 0));
                all.add(new Ask("slot", e > 100 ? 1 + e % 4 : e, i, 0));
            }
        }
        return all;
    }

    private void play(int number) {
        Net net = new Net(size);
        List<Ask> calls = asks.get(number);
        for (int i = 0; i < calls.size() && !Check.anyWrong(); i++) {
            Ask ask = calls.get(i);
            int due = dues.get(number).get(i);
            Check.due(ask.text(), ask.of(net), due);
            if (Check.anyWrong()) {
                tell(number, i);
            }
        }
    }

    private void tell(int number, int last) {
        System.out.println("new PromiseVats(" + size + "), with the answers that are due:");
        for (int i = 0; i <= last; i++) {
            String text = asks.get(number).get(i).text();
            System.out.println("  " + text + " = " + dues.get(number).get(i));
        }
    }

    public static void main(String[] args) {
        TreeMap<String, Integer> met = new TreeMap<>();
        for (int run = 0; run < RUNS && !Check.anyWrong(); run++) {
            Check.begin("random run " + run);
            RandomRunsTest test = new RandomRunsTest(run);
            test.makeRun();
            for (int net = 0; net < NETS; net++) {
                test.play(net);
            }
            for (Map.Entry<String, Integer> entry : test.model.met.entrySet()) {
                met.merge(entry.getKey(), entry.getValue(), Integer::sum);
            }
        }
        System.out.println(met);
        if (!Check.anyWrong()) {
            for (String rule : RARE) {
                Check.due("whether a run met: " + rule, met.containsKey(rule), true);
            }
        }
        Check.end();
    }
}
