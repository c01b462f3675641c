import java.util.ArrayList;

/**
 * A net of 2 to 4 vats whose objects call one another across vats, with promises of answers, gifts
 * of references to third vats, and sweeps over counts of references.
 */
public final class PromiseVats {
    public static final int NONE = -1;

    private static final int LEAST_VATS = 2;
    private static final int MOST_VATS = 4;
    private static final int MOST_OBJECTS = 60;
    private static final int MOST_PROMISES = 100;
    /** A promise's number is this and how many promises were made with it. */
    private static final int PROMISE_BASE = 100;
    private static final int PROGRAMS = 8;
    private static final int PROGRAM_LENGTH = 8;
    private static final int SLOTS = 4;
    private static final int MOST_WAITING = 8;
    private static final int POKE_LIMIT = 20;
    private static final int KEPT_OUTPUTS = 10;

    private static final int OP_SET = 0;
    private static final int OP_ADD = 1;
    private static final int OP_KEEP = 2;
    private static final int OP_PUT = 3;
    private static final int OP_GET = 4;
    private static final int OP_SELF = 5;
    private static final int OP_NEW = 6;
    private static final int OP_SEND = 7;
    private static final int OP_SKIP = 8;
    private static final int OP_OUT = 9;
    private static final int OP_NONE = 10;

    private static final int CALL = 1;
    private static final int RESOLVE = 2;
    private static final int RELEASE = 3;
    private static final int GIFT = 4;
    private static final int REDEEM = 5;

    private static final int KIND_OBJECTS = 0;
    private static final int KIND_OPEN = 1;
    private static final int KIND_RESOLVED = 2;
    private static final int KIND_IMPORTS = 3;
    private static final int KIND_GIFTS = 4;
    private static final int KIND_REDEEMS = 5;
    private static final int KIND_WAITING = 6;
    private static final int KIND_OUTPUTS = 7;

    private final Vat[] vats;
    private final Program[] programs;
    /** Every entity ever made, under its number: freed ones stay, as answers may still name them. */
    private final Entity[] entities;
    private int objectsMade;
    private int promisesMade;
    private final Turn running;
    /** The answers of the calls lost in the arrival or resolving that goes on, oldest first. */
    private final Promise[] lost;
    private int lostCount;
    /** What a sweep has reached so far, in the order in which it came to it. */
    private final Entity[] found;
    private int foundCount;

    public PromiseVats(int vats) {
        int size = Math.max(LEAST_VATS, Math.min(MOST_VATS, vats));
        this.vats = new Vat[size];
        programs = new Program[PROGRAMS];
        entities = new Entity[PROMISE_BASE + MOST_PROMISES + 1];
        running = new Turn();
        lost = new Promise[MOST_PROMISES];
        found = new Entity[MOST_OBJECTS + MOST_PROMISES];
        for (int i = 0; i < PROGRAMS; i++) {
            programs[i] = new Program();
        }
        for (int v = 0; v < size; v++) {
            VatObject root = new VatObject(v + 1, v, v);
            entities[v + 1] = root;
            this.vats[v] = new Vat(root, size);
        }
        objectsMade = size;
    }

    public boolean code(int program, int op, int x) {
        if (!isProgram(program) || !isInstruction(op, x)) {
            return false;
        }
        Program longer = programs[program];
        if (longer.length >= PROGRAM_LENGTH) {
            return false;
        }
        longer.ops[longer.length] = op;
        longer.xs[longer.length] = x;
        longer.length++;
        return true;
    }

    public boolean clear(int program) {
        if (!isProgram(program)) {
            return false;
        }
        programs[program].length = 0;
        return true;
    }

    public boolean give(int v, int s, int w) {
        if (!isVat(v) || !isSlot(s) || !isVat(w)) {
            return false;
        }
        VatObject given = vats[w].root;
        vats[v].root.slots[s] = given;
        if (v != w) {
            given.exports[v]++;
            given.imports[v]++;
        }
        return true;
    }

    public boolean poke(int v, int value) {
        if (!isVat(v) || vats[v].calls.size() >= POKE_LIMIT) {
            return false;
        }
        arrive(new Call(vats[v].root, value, null, null), v);
        return true;
    }

    public int turn(int v) {
        if (!isVat(v) || vats[v].calls.isEmpty()) {
            return NONE;
        }
        Call call = vats[v].calls.remove(0);
        if (call.target instanceof VatObject called) {
            running.begin(called, call);
            Program program = programs[called.program];
            for (int i = 0; i < program.length; i++) {
                if (running.skips > 0) {
                    running.skips--;
                } else {
                    perform(running, program.ops[i], program.xs[i]);
                    settleLost(v);
                }
            }
            if (call.answer != null) {
                resolveIn(v, call.answer, running.reference);
                settleLost(v);
            }
            return called.id;
        }
        return NONE;
    }

    public int deliver(int a, int b) {
        if (flying(a, b) == 0) {
            return 0;
        }
        Message message = vats[a].channels[b].messages.remove(0);
        unpackArgument(message.argument, a, b);
        takeMessage(message, a, b);
        settleLost(b);
        return message.kind;
    }

    public int sweep(int v) {
        if (!isVat(v)) {
            return NONE;
        }
        findReached(v);
        int freed = freeUnreached(v);
        releaseUnreached(v);
        return freed;
    }

    public int flying(int a, int b) {
        return isVat(a) && isVat(b) ? vats[a].channels[b].messages.size() : 0;
    }

    public int inbox(int v) {
        return isVat(v) ? vats[v].calls.size() : 0;
    }

    public int count(int v, int kind) {
        if (!isVat(v)) {
            return 0;
        }
        if (kind == KIND_OUTPUTS) {
            return vats[v].outputs;
        }
        int sum = 0;
        for (int n = 1; n < entities.length; n++) {
            if (entities[n] != null) {
                sum += shareInCount(entities[n], v, kind);
            }
        }
        return sum;
    }

    public int imported(int v, int e) {
        Entity entity = madeEntity(e);
        return isVat(v) && entity != null ? entity.imports[v] : 0;
    }

    public int exported(int e, int b) {
        Entity entity = liveEntity(e);
        return isVat(b) && entity != null ? entity.exports[b] : 0;
    }

    public int home(int e) {
        Entity entity = liveEntity(e);
        return entity == null ? NONE : entity.home;
    }

    public int slot(int e, int s) {
        if (isSlot(s) && liveEntity(e) instanceof VatObject object) {
            return referenceTo(object.slots[s]);
        }
        return 0;
    }

    public int number(int e) {
        if (liveEntity(e) instanceof VatObject object) {
            return object.amount;
        }
        return 0;
    }

    public int resolved(int e) {
        if (liveEntity(e) instanceof Promise promise && !promise.open) {
            return referenceTo(promise.outcome);
        }
        return NONE;
    }

    public int output(int v, int k) {
        return isVat(v) && k >= 0 && k < KEPT_OUTPUTS ? vats[v].latest[k] : 0;
    }

    private boolean isVat(int v) {
        return v >= 0 && v < vats.length;
    }

    private static boolean isProgram(int program) {
        return program >= 0 && program < PROGRAMS;
    }

    private static boolean isSlot(int s) {
        return s >= 0 && s < SLOTS;
    }

    private static boolean isInstruction(int op, int x) {
        switch (op) {
            case OP_PUT:
            case OP_GET:
            case OP_SEND:
                return isSlot(x);
            case OP_NEW:
                return isProgram(x);
            case OP_SKIP:
                return x >= 0 && x < PROGRAM_LENGTH;
            default:
                return op >= OP_SET && op <= OP_NONE;
        }
    }

    private Entity madeEntity(int e) {
        return e >= 0 && e < entities.length ? entities[e] : null;
    }

    private Entity liveEntity(int e) {
        Entity entity = madeEntity(e);
        return entity == null || entity.freed ? null : entity;
    }

    private static int referenceTo(Entity entity) {
        return entity == null ? 0 : entity.id;
    }

    private void perform(Turn turn, int op, int x) {
        VatObject self = turn.self;
        switch (op) {
            case OP_SET:
                turn.value = x;
                break;
            case OP_ADD:
                turn.value += self.amount;
                break;
            case OP_KEEP:
                self.amount = turn.value;
                break;
            case OP_PUT:
                self.slots[x] = turn.reference;
                break;
            case OP_GET:
                turn.reference = self.slots[x];
                break;
            case OP_SELF:
                turn.reference = self;
                break;
            case OP_NEW:
                turn.reference = makeObject(turn, x);
                break;
            case OP_SEND:
                turn.reference = callFrom(turn, self.slots[x]);
                break;
            case OP_SKIP:
                turn.skips = turn.value == 0 ? x : 0;
                break;
            case OP_OUT:
                vats[self.home].putOut(turn.value);
                break;
            default:
                turn.reference = null;
                break;
        }
    }

    private VatObject makeObject(Turn turn, int program) {
        if (objectsMade >= MOST_OBJECTS) {
            return null;
        }
        objectsMade++;
        VatObject made = new VatObject(objectsMade, turn.self.home, program);
        made.amount = turn.value;
        made.slots[0] = turn.reference;
        entities[made.id] = made;
        return made;
    }

    /** Sends a call out of a turn and gives the promise of its answer. */
    private Promise callFrom(Turn turn, Entity target) {
        if (target == null || promisesMade >= MOST_PROMISES) {
            return null;
        }
        promisesMade++;
        Promise answer = new Promise(PROMISE_BASE + promisesMade, target.home);
        entities[answer.id] = answer;
        Call call = new Call(target, turn.value, turn.reference, answer);
        int here = turn.self.home;
        if (target.home == here) {
            arrive(call, here);
        } else {
            postCall(call, here);
            answer.exports[here] = 1;
            answer.imports[here] = 1;
        }
        return answer;
    }

    /**
     * Follows promises resolved in this vat until the call can rest in it, leaves it or is lost.
     * No resolving in a vat closes a ring of its promises, so no call meets more than all of them.
     */
    private void arrive(Call call, int here) {
        for (int met = 0; met <= MOST_PROMISES; met++) {
            if (call.target instanceof Promise promise) {
                if (promise.open) {
                    waitAt(promise, call);
                    return;
                }
                if (promise.outcome == null) {
                    lose(call);
                    return;
                }
                call.target = promise.outcome;
                if (call.target.home != here) {
                    postCall(call, here);
                    return;
                }
            } else {
                vats[here].calls.add(call);
                return;
            }
        }
    }

    private void waitAt(Promise promise, Call call) {
        if (promise.waiting.size() >= MOST_WAITING) {
            lose(call);
        } else {
            promise.waiting.add(call);
        }
    }

    private void lose(Call call) {
        if (call.answer != null && lostCount < lost.length) {
            lost[lostCount] = call.answer;
            lostCount++;
        }
    }

    /** The list grows while it is gone through: what is lost by one answer comes behind the rest. */
    private void settleLost(int here) {
        for (int i = 0; i < lost.length && i < lostCount; i++) {
            resolveIn(here, lost[i], null);
        }
        lostCount = 0;
    }

    private void resolveIn(int here, Promise promise, Entity outcome) {
        if (promise.home != here) {
            packArgument(outcome, here, promise.home);
            post(here, promise.home, new Message(RESOLVE, promise, outcome, 0));
            return;
        }
        if (promise.freed || !promise.open) {
            return;
        }
        promise.outcome = leadsTo(outcome, promise) ? null : outcome;
        promise.open = false;
        // The promise is no longer open, so that arriving at it again sends each call on.
        for (int i = 0; i < MOST_WAITING && i < promise.waiting.size(); i++) {
            arrive(promise.waiting.get(i), here);
        }
        promise.waiting.clear();
    }

    private static boolean leadsTo(Entity start, Promise goal) {
        Entity at = start;
        for (int met = 0; met <= MOST_PROMISES && at != null; met++) {
            if (at == goal) {
                return true;
            }
            if (at instanceof Promise promise && promise.home == goal.home) {
                at = promise.outcome;
            } else {
                at = null;
            }
        }
        return false;
    }

    private void postCall(Call call, int here) {
        int there = call.target.home;
        packArgument(call.argument, here, there);
        Message message = new Message(CALL, call.target, call.argument, 0);
        message.call = call;
        post(here, there, message);
    }

    private void packArgument(Entity argument, int from, int to) {
        if (argument == null) {
            return;
        }
        if (argument.home == from) {
            argument.exports[to]++;
        } else if (argument.home != to) {
            post(from, argument.home, new Message(GIFT, argument, null, to));
        }
    }

    private void unpackArgument(Entity argument, int from, int to) {
        if (argument == null || argument.home == to) {
            return;
        }
        argument.imports[to]++;
        if (argument.home != from) {
            post(to, argument.home, new Message(REDEEM, argument, null, from));
        }
    }

    private void post(int from, int to, Message message) {
        vats[from].channels[to].messages.add(message);
    }

    private void takeMessage(Message message, int from, int here) {
        Entity subject = message.subject;
        switch (message.kind) {
            case CALL:
                if (message.call != null) {
                    arrive(message.call, here);
                }
                break;
            case RESOLVE:
                if (subject instanceof Promise promise) {
                    resolveIn(here, promise, message.argument);
                }
                break;
            case RELEASE:
                subject.exports[from] -= message.amount;
                break;
            case GIFT:
                takeGift(subject, from, message.amount);
                break;
            default:
                takeRedeem(subject, message.amount, from);
                break;
        }
    }

    private static void takeGift(Entity entity, int giver, int taker) {
        int pair = giver * MOST_VATS + taker;
        if (entity.gifts[pair] < 0) {
            entity.exports[taker]++;
        }
        entity.gifts[pair]++;
    }

    private static void takeRedeem(Entity entity, int giver, int taker) {
        int pair = giver * MOST_VATS + taker;
        if (entity.gifts[pair] > 0) {
            entity.exports[taker]++;
        }
        entity.gifts[pair]--;
    }

    private void findReached(int v) {
        for (int n = 1; n < entities.length; n++) {
            if (entities[n] != null) {
                entities[n].reached = false;
            }
        }
        foundCount = 0;
        reach(vats[v].root);
        reachWanted(v);
        reachCalls(vats[v].calls);
        for (int i = 0; i < found.length && i < foundCount; i++) {
            if (found[i].home == v) {
                reachInside(found[i]);
            }
        }
    }

    /** Reaches what other vats may know of, and the promises that still have calls to send on. */
    private void reachWanted(int v) {
        for (int n = 1; n < entities.length; n++) {
            Entity entity = entities[n];
            if (entity != null && entity.home == v && !entity.freed && entity.isWanted()) {
                reach(entity);
            }
        }
    }

    private void reachCalls(ArrayList<Call> calls) {
        for (int i = 0; i < calls.size(); i++) {
            reach(calls.get(i).target);
            reach(calls.get(i).argument);
        }
    }

    private void reachInside(Entity entity) {
        if (entity instanceof VatObject object) {
            for (int s = 0; s < SLOTS; s++) {
                reach(object.slots[s]);
            }
        } else if (entity instanceof Promise promise) {
            reach(promise.outcome);
            reachCalls(promise.waiting);
        }
    }

    private void reach(Entity entity) {
        if (entity != null && !entity.reached && foundCount < found.length) {
            entity.reached = true;
            found[foundCount] = entity;
            foundCount++;
        }
    }

    private int freeUnreached(int v) {
        int freed = 0;
        for (int n = 1; n < entities.length; n++) {
            Entity entity = entities[n];
            if (entity != null && entity.home == v && !entity.reached && !entity.freed) {
                entity.freed = true;
                freed++;
            }
        }
        return freed;
    }

    private void releaseUnreached(int v) {
        for (int n = 1; n < entities.length; n++) {
            Entity entity = entities[n];
            if (entity != null && entity.imports[v] > 0 && !entity.reached) {
                post(v, entity.home, new Message(RELEASE, entity, null, entity.imports[v]));
                entity.imports[v] = 0;
            }
        }
    }

    /** What one entity adds to the answer of a count. */
    private static int shareInCount(Entity entity, int v, int kind) {
        if (kind == KIND_IMPORTS) {
            return entity.imports[v] > 0 ? 1 : 0;
        }
        if (entity.home != v) {
            return 0;
        }
        switch (kind) {
            case KIND_GIFTS:
                return entity.unpaired(1);
            case KIND_REDEEMS:
                return entity.unpaired(-1);
            case KIND_WAITING:
                return waitingAt(entity);
            default:
                return !entity.freed && kind == kindOf(entity) ? 1 : 0;
        }
    }

    private static int waitingAt(Entity entity) {
        if (entity instanceof Promise promise) {
            return promise.waiting.size();
        }
        return 0;
    }

    /** The kind of count that an entity is counted under while it is not freed. */
    private static int kindOf(Entity entity) {
        if (entity instanceof Promise promise) {
            return promise.open ? KIND_OPEN : KIND_RESOLVED;
        }
        return KIND_OBJECTS;
    }

    /** An object or a promise. A reference is such an entity, or null for none. */
    private abstract static class Entity {
        final int id;
        final int home;
        boolean freed;
        boolean reached;
        final int[] exports = new int[MOST_VATS];
        final int[] imports = new int[MOST_VATS];
        /**
         * For each giver and taker the waiting gifts less the waiting redeems: one of these is
         * always 0, as the other kind would make a pair with it.
         */
        final int[] gifts = new int[MOST_VATS * MOST_VATS];

        Entity(int id, int home) {
            this.id = id;
            this.home = home;
        }

        /** How many gifts (sign 1) or redeems (sign -1) wait. */
        final int unpaired(int sign) {
            int sum = 0;
            for (int i = 0; i < gifts.length; i++) {
                sum += Math.max(0, sign * gifts[i]);
            }
            return sum;
        }

        final boolean isExported() {
            for (int b = 0; b < exports.length; b++) {
                if (exports[b] > 0) {
                    return true;
                }
            }
            return false;
        }

        /** Whether a sweep of the home begins with this entity. */
        boolean isWanted() {
            return isExported() || unpaired(1) > 0;
        }
    }

    private static final class VatObject extends Entity {
        final int program;
        int amount;
        final Entity[] slots = new Entity[SLOTS];

        VatObject(int id, int home, int program) {
            super(id, home);
            this.program = program;
        }
    }

    private static final class Promise extends Entity {
        boolean open = true;
        Entity outcome;
        final ArrayList<Call> waiting = new ArrayList<>();

        Promise(int id, int home) {
            super(id, home);
        }

        boolean isWanted() {
            return isExported() || unpaired(1) > 0 || !waiting.isEmpty();
        }
    }

    private static final class Call {
        /** Changes when the call is sent on. */
        Entity target;
        final int value;
        final Entity argument;
        final Promise answer;

        Call(Entity target, int value, Entity argument, Promise answer) {
            this.target = target;
            this.value = value;
            this.argument = argument;
            this.answer = answer;
        }
    }

    private static final class Message {
        final int kind;
        final Entity subject;
        final Entity argument;
        /** The count of a release, the vat that takes a gift, or the vat that a redeem takes from. */
        final int amount;
        Call call;

        Message(int kind, Entity subject, Entity argument, int amount) {
            this.kind = kind;
            this.subject = subject;
            this.argument = argument;
            this.amount = amount;
        }
    }

    /** The messages from one vat to another that were not delivered yet, oldest first. */
    private static final class Channel {
        final ArrayList<Message> messages = new ArrayList<>();
    }

    private static final class Program {
        final int[] ops = new int[PROGRAM_LENGTH];
        final int[] xs = new int[PROGRAM_LENGTH];
        int length;
    }

    private static final class Vat {
        final VatObject root;
        /** The inbox. */
        final ArrayList<Call> calls = new ArrayList<>();
        final Channel[] channels;
        final int[] latest = new int[KEPT_OUTPUTS];
        int outputs;

        Vat(VatObject root, int vats) {
            this.root = root;
            channels = new Channel[vats];
            for (int b = 0; b < vats; b++) {
                channels[b] = new Channel();
            }
        }

        void putOut(int value) {
            System.arraycopy(latest, 0, latest, 1, KEPT_OUTPUTS - 1);
            latest[0] = value;
            outputs++;
        }
    }

    /** What a turn works with; one is enough, as no two turns go on at once. */
    private static final class Turn {
        VatObject self;
        int value;
        Entity reference;
        int skips;

        void begin(VatObject called, Call call) {
            self = called;
            value = call.value;
            reference = call.argument;
            skips = 0;
        }
    }
}
