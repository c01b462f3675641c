import java.util.ArrayDeque;
import java.util.ArrayList;
import java.util.List;
import java.util.TreeMap;
import java.util.TreeSet;

/**
 * A second writing of the document, sentence by sentence and without regard to speed, against which
 * RandomRunsTest holds the program. References are plain numbers here, counts stand in maps, and
 * waiting gifts and redeems are kept one by one.
 */
final class VatModel implements Face {
    record Call(int target, int value, int argument, int answer) {
    }

    record Message(int kind, int entity, int argument, Call call, int number) {
    }

    record Gift(int giver, int taker, int entity) {
    }

    static final class Entity {
        int home;
        boolean promise;
        boolean freed;
        int program;
        int number;
        int[] slots = new int[4];
        boolean open = true;
        int resolution;
        List<Call> waiting = new ArrayList<>();
    }

    static final class Vat {
        List<Call> inbox = new ArrayList<>();
        List<Integer> outputs = new ArrayList<>();
        TreeMap<Integer, Integer> imports = new TreeMap<>();
        List<Gift> gifts = new ArrayList<>();
        List<Gift> redeems = new ArrayList<>();
        List<ArrayDeque<Message>> wires = new ArrayList<>();
    }

    final int size;
    final List<Vat> vats = new ArrayList<>();
    final List<List<int[]>> programs = new ArrayList<>();
    final TreeMap<Integer, Entity> entities = new TreeMap<>();
    final TreeMap<Integer, int[]> exports = new TreeMap<>();
    private int objects = 0;
    private int promises = 0;
    private final ArrayDeque<Call> lost = new ArrayDeque<>();
    /** How often the rarer rules were met: RandomRunsTest asks that each was. */
    final TreeMap<String, Integer> met = new TreeMap<>();

    VatModel(int vatsAsked) {
        size = vatsAsked < 2 ? 2 : vatsAsked > 4 ? 4 : vatsAsked;
        for (int p = 0; p < 8; p++) {
            programs.add(new ArrayList<>());
        }
        for (int v = 0; v < size; v++) {
            Vat vat = new Vat();
            for (int b = 0; b < size; b++) {
                vat.wires.add(new ArrayDeque<>());
            }
            vats.add(vat);
            newObject(v, v, 0, 0);
        }
    }

    private void meet(String what) {
        met.merge(what, 1, Integer::sum);
    }

    private int newObject(int home, int program, int number, int firstSlot) {
        objects++;
        Entity made = new Entity();
        made.home = home;
        made.program = program;
        made.number = number;
        made.slots[0] = firstSlot;
        entities.put(objects, made);
        exports.put(objects, new int[4]);
        return objects;
    }

    private int newPromise(int home) {
        promises++;
        Entity made = new Entity();
        made.home = home;
        made.promise = true;
        entities.put(100 + promises, made);
        exports.put(100 + promises, new int[4]);
        return 100 + promises;
    }

    boolean vat(int v) {
        return v >= 0 && v < size;
    }

    @Override
    public boolean code(int program, int op, int x) {
        boolean smallX = x >= 0 && x <= 3;
        boolean wideX = x >= 0 && x <= 7;
        if (program < 0 || program > 7 || op < 0 || op > 10) {
            return false;
        }
        if ((op == 3 || op == 4 || op == 7) && !smallX || (op == 6 || op == 8) && !wideX) {
            return false;
        }
        if (programs.get(program).size() == 8) {
            return false;
        }
        programs.get(program).add(new int[] {op, x});
        return true;
    }

    @Override
    public boolean clear(int program) {
        if (program < 0 || program > 7) {
            return false;
        }
        programs.get(program).clear();
        return true;
    }

    @Override
    public boolean give(int v, int s, int w) {
        if (!vat(v) || !vat(w) || s < 0 || s > 3) {
            return false;
        }
        entities.get(v + 1).slots[s] = w + 1;
        if (v != w) {
            exports.get(w + 1)[v]++;
            vats.get(v).imports.merge(w + 1, 1, Integer::sum);
        }
        return true;
    }

    @Override
    public boolean poke(int v, int value) {
        if (!vat(v) || vats.get(v).inbox.size() >= 20) {
            return false;
        }
        arrive(v, new Call(v + 1, value, 0, 0));
        return true;
    }

    private void send(int a, int b, Message message) {
        vats.get(a).wires.get(b).add(message);
        if (message.kind > 2 || message.argument == 0) {
            return;
        }
        int e = message.argument;
        int home = entities.get(e).home;
        if (entities.get(e).freed) {
            throw new IllegalStateException("a freed entity travels: " + e);
        }
        if (home == a) {
            exports.get(e)[b]++;
        } else if (home != b) {
            send(a, home, new Message(4, e, 0, null, b));
        }
    }

    @Override
    public int deliver(int a, int b) {
        if (!vat(a) || !vat(b) || a == b || vats.get(a).wires.get(b).isEmpty()) {
            return 0;
        }
        Message m = vats.get(a).wires.get(b).remove();
        if (m.kind <= 2 && m.argument != 0) {
            int home = entities.get(m.argument).home;
            if (home != b) {
                vats.get(b).imports.merge(m.argument, 1, Integer::sum);
                if (home != a) {
                    send(b, home, new Message(5, m.argument, 0, null, a));
                }
            }
        }
        switch (m.kind) {
            case 1 -> arrive(b, m.call);
            case 2 -> resolve(b, m.entity, m.argument);
            case 3 -> exports.get(m.entity)[a] -= m.number;
            case 4 -> pair(new Gift(a, m.number, m.entity), vats.get(b).redeems, vats.get(b).gifts);
            default -> pair(new Gift(m.number, a, m.entity), vats.get(b).gifts, vats.get(b).redeems);
        }
        if (m.kind == 3 && exports.get(m.entity)[a] < 0) {
            meet("export below 0");
        }
        settle(b);
        return m.kind;
    }

    private void pair(Gift gift, List<Gift> others, List<Gift> own) {
        if (others.remove(gift)) {
            exports.get(gift.entity)[gift.taker]++;
            meet("pair made");
        } else {
            own.add(gift);
        }
    }

    private void arrive(int h, Call call) {
        Entity target = entities.get(call.target);
        if (target.freed || target.home != h) {
            throw new IllegalStateException("a call of " + call.target + " arrives at " + h);
        }
        if (!target.promise) {
            vats.get(h).inbox.add(call);
        } else if (!target.open) {
            sendOn(h, call, target.resolution);
        } else if (target.waiting.size() == 8) {
            meet("lost at a full promise");
            lost.add(call);
        } else {
            target.waiting.add(call);
        }
    }

    private void sendOn(int h, Call call, int u) {
        Call further = new Call(u, call.value, call.argument, call.answer);
        if (u == 0) {
            lost.add(call);
        } else if (entities.get(u).home == h) {
            meet(entities.get(u).promise ? "sent on to a promise here" : "sent on to an object here");
            arrive(h, further);
        } else {
            meet("sent on to another vat");
            send(h, entities.get(u).home, new Message(1, u, call.argument, further, 0));
        }
    }

    private void resolve(int w, int p, int r) {
        Entity promise = entities.get(p);
        if (promise.home != w) {
            send(w, promise.home, new Message(2, p, r, null, 0));
            return;
        }
        if (promise.freed || !promise.open) {
            meet(promise.freed ? "freed promise resolved" : "resolved promise resolved again");
            return;
        }
        boolean ring = false;
        int at = r;
        while (at != 0 && !ring) {
            ring = at == p;
            Entity here = entities.get(at);
            at = here.promise && here.home == w && !here.open ? here.resolution : 0;
        }
        if (ring) {
            meet(r == p ? "resolved to itself" : "resolved to a ring");
        }
        promise.open = false;
        promise.resolution = ring ? 0 : r;
        List<Call> waited = promise.waiting;
        promise.waiting = new ArrayList<>();
        for (Call call : waited) {
            sendOn(w, call, promise.resolution);
        }
    }

    private void settle(int w) {
        while (!lost.isEmpty()) {
            Call call = lost.remove();
            int before = lost.size();
            if (call.answer != 0) {
                resolve(w, call.answer, 0);
            }
            if (lost.size() > before) {
                meet(before > 0 ? "lost behind others" : "lost by a loss");
            }
        }
    }

    @Override
    public int turn(int v) {
        if (!vat(v) || vats.get(v).inbox.isEmpty()) {
            return -1;
        }
        Call call = vats.get(v).inbox.remove(0);
        Entity object = entities.get(call.target);
        List<int[]> program = programs.get(object.program);
        int value = call.value;
        int reference = call.argument;
        int at = 0;
        while (at < program.size()) {
            int x = program.get(at)[1];
            int op = program.get(at)[0];
            at++;
            switch (op) {
                case 0 -> value = x;
                case 1 -> value += object.number;
                case 2 -> object.number = value;
                case 3 -> object.slots[x] = reference;
                case 4 -> reference = object.slots[x];
                case 5 -> reference = call.target;
                case 6 -> reference = objects == 60 ? 0 : newObject(v, x, value, reference);
                case 7 -> reference = sendCall(v, object.slots[x], value, reference);
                case 8 -> at += value == 0 ? x : 0;
                case 9 -> vats.get(v).outputs.add(value);
                default -> reference = 0;
            }
            settle(v);
        }
        if (call.answer != 0) {
            resolve(v, call.answer, reference);
            settle(v);
        }
        return call.target;
    }

    private int sendCall(int v, int t, int value, int reference) {
        if (t == 0 || promises == 100) {
            return 0;
        }
        int home = entities.get(t).home;
        int p = newPromise(home);
        Call call = new Call(t, value, reference, p);
        if (home == v) {
            arrive(v, call);
        } else {
            send(v, home, new Message(1, t, reference, call, 0));
            exports.get(p)[v] = 1;
            vats.get(v).imports.put(p, 1);
        }
        return p;
    }

    @Override
    public int sweep(int v) {
        if (!vat(v)) {
            return -1;
        }
        TreeSet<Integer> reached = new TreeSet<>();
        mark(v, v + 1, reached);
        for (int e : entities.keySet()) {
            Entity entity = entities.get(e);
            boolean exported = false;
            for (int b = 0; b < size; b++) {
                exported |= exports.get(e)[b] > 0;
            }
            for (Gift gift : vats.get(v).gifts) {
                exported |= gift.entity == e;
            }
            if (entity.home == v && !entity.freed && (exported || !entity.waiting.isEmpty())) {
                mark(v, e, reached);
            }
        }
        for (Call call : vats.get(v).inbox) {
            mark(v, call.target, reached);
            mark(v, call.argument, reached);
        }
        int freed = 0;
        for (int e : entities.keySet()) {
            Entity entity = entities.get(e);
            if (entity.home == v && !entity.freed && !reached.contains(e)) {
                entity.freed = true;
                freed++;
            }
        }
        for (int e : new ArrayList<>(vats.get(v).imports.keySet())) {
            if (!reached.contains(e)) {
                int count = vats.get(v).imports.remove(e);
                send(v, entities.get(e).home, new Message(3, e, 0, null, count));
            }
        }
        return freed;
    }

    private void mark(int v, int e, TreeSet<Integer> reached) {
        if (e == 0 || !reached.add(e) || entities.get(e).home != v) {
            return;
        }
        Entity entity = entities.get(e);
        for (int s = 0; s < 4; s++) {
            mark(v, entity.slots[s], reached);
        }
        mark(v, entity.resolution, reached);
        for (Call call : entity.waiting) {
            mark(v, call.argument, reached);
        }
    }

    @Override
    public int count(int v, int kind) {
        if (!vat(v)) {
            return 0;
        }
        int[] sums = new int[8];
        for (Entity entity : entities.values()) {
            if (entity.home == v && !entity.freed) {
                sums[entity.promise ? entity.open ? 1 : 2 : 0]++;
                sums[6] += entity.waiting.size();
            }
        }
        sums[3] = vats.get(v).imports.size();
        sums[4] = vats.get(v).gifts.size();
        sums[5] = vats.get(v).redeems.size();
        sums[7] = vats.get(v).outputs.size();
        return kind >= 0 && kind <= 7 ? sums[kind] : 0;
    }

    Entity live(int e) {
        Entity entity = entities.get(e);
        return entity == null || entity.freed ? null : entity;
    }

    @Override
    public int imported(int v, int e) {
        return vat(v) ? vats.get(v).imports.getOrDefault(e, 0) : 0;
    }

    @Override
    public int exported(int e, int b) {
        return live(e) == null || !vat(b) || live(e).home == b ? 0 : exports.get(e)[b];
    }

    @Override
    public int home(int e) {
        return live(e) == null ? -1 : live(e).home;
    }

    @Override
    public int slot(int e, int s) {
        return live(e) == null || live(e).promise || s < 0 || s > 3 ? 0 : live(e).slots[s];
    }

    @Override
    public int number(int e) {
        return live(e) == null || live(e).promise ? 0 : live(e).number;
    }

    @Override
    public int resolved(int e) {
        return live(e) == null || !live(e).promise || live(e).open ? -1 : live(e).resolution;
    }

    @Override
    public int output(int v, int k) {
        if (!vat(v) || k < 0 || k > 9 || k >= vats.get(v).outputs.size()) {
            return 0;
        }
        return vats.get(v).outputs.get(vats.get(v).outputs.size() - 1 - k);
    }

    @Override
    public int flying(int a, int b) {
        return vat(a) && vat(b) ? vats.get(a).wires.get(b).size() : 0;
    }

    @Override
    public int inbox(int v) {
        return vat(v) ? vats.get(v).inbox.size() : 0;
    }
}
