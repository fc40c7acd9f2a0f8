import java.util.Arrays;

/**
 * Nodes that agree on a row of commands: mains that do all the work, spares that are asked only
 * when mains fail. The numbered promises of the document are told at the calls that keep them.
 */
public final class CheapVotes {
    public static final int NONE = -1;

    private static final int FEWEST_MAINS = 2;
    private static final int MOST_MAINS = 5;
    private static final int USUAL_MAINS = 3;
    private static final int SLOTS = 100;
    /** A command that takes a main out works from so many slots behind its own on. */
    private static final int AHEAD = 4;
    private static final int MOST_ON_WAY = 300;
    /** Both queues full, and one message in hand. */
    private static final int MOST_MESSAGES = 2 * MOST_ON_WAY + 1;
    private static final int MOST_WAIT = 20;
    private static final int MOST_ROUNDS = 50;
    private static final int MOST_R = 1000;
    private static final int BALLOT_STEP = 8;
    /** Above every BALLOT that a main can have, so that what is decided always wins. */
    private static final int DECIDED_BALLOT = 10000;
    private static final int RESEND_EVERY = 3;
    private static final int TAKE_OUT_AT = 4;
    /** No command has this value: the least of them, -5, takes out main 4. */
    private static final int NO_COMMAND = -1000;
    /** Far above what one call can do: a main PROPOSES for each slot once. */
    private static final int MANY = 1000000;

    private static final int NO_ROLE = 0;
    private static final int PREPARING = 1;
    private static final int LEADING = 2;

    private static final int PREPARE = 1;
    private static final int PROMISE = 2;
    private static final int ACCEPT = 3;
    private static final int TAKEN = 4;
    private static final int DECIDED = 5;
    private static final int TOLD = 6;
    private static final int FORGET = 7;
    private static final int REFUSED = 8;

    private final int mainCount;
    private final int nodeCount;
    /** Sets of nodes are bits: bit i is node i. */
    private final int spareBits;
    private final Node[] nodes;
    private final Main[] mains;
    private final Mail mail;

    /** Promise 1. */
    public CheapVotes(int mains) {
        boolean fits = mains >= FEWEST_MAINS && mains <= MOST_MAINS;
        mainCount = fits ? mains : USUAL_MAINS;
        nodeCount = 2 * mainCount - 1;
        spareBits = (1 << nodeCount) - (1 << mainCount);
        nodes = new Node[nodeCount];
        for (int i = 0; i < nodeCount; i++) {
            nodes[i] = new Node();
        }
        this.mains = new Main[mainCount];
        for (int i = 0; i < mainCount; i++) {
            this.mains[i] = new Main(mainCount, nodeCount);
        }
        mail = new Mail();
    }

    /** Promise 2. */
    public int submit(int node, int c)
            throws IndexOutOfBoundsException, IllegalArgumentException, IllegalStateException {
        checkMain(node);
        if (c < 1) {
            throw new IllegalArgumentException("the command is below 1");
        }
        Waiting waiting = mains[node].waiting;
        if (nodes[node].crashed || waiting.size >= MOST_WAIT) {
            throw new IllegalStateException("crashed, or 20 wait");
        }
        waiting.addLast(c);
        settle(node);
        return waiting.size;
    }

    /** Promise 3. */
    public int campaign(int node) throws IndexOutOfBoundsException, IllegalStateException {
        checkMain(node);
        Log log = mains[node].log;
        Lead lead = mains[node].lead;
        int above = Math.max(nodes[node].promised, lead.ballot);
        int ballot = nextBallot(above, node);
        if (nodes[node].crashed || log.known >= SLOTS || !log.isMember(node)
                || ballot / BALLOT_STEP > MOST_R) {
            throw new IllegalStateException("crashed, no member, all is known, or r is too high");
        }
        lead.begin(ballot);
        sendPrepares(node, log.membersAt(log.known));
        settle(node);
        return ballot;
    }

    /** Promise 4. */
    public int deliver(int i) throws IndexOutOfBoundsException {
        checkMessage(i);
        return arrive(mail.onWay.take(i));
    }

    /** Promise 5. */
    public int lose(int i) throws IndexOutOfBoundsException {
        checkMessage(i);
        mail.release(mail.onWay.take(i));
        return mail.onWay.size;
    }

    /** Promise 6. */
    public int repeat(int i) throws IndexOutOfBoundsException, IllegalStateException {
        checkMessage(i);
        if (mail.onWay.size >= MOST_ON_WAY) {
            throw new IllegalStateException("300 are on the way");
        }
        mail.sendAgain(mail.onWay.at(i));
        return mail.onWay.size;
    }

    /** Promise 7. */
    public void tick() {
        for (int i = 0; i < mainCount; i++) {
            tickMain(i);
        }
    }

    /** Promise 8. */
    public int run(int n) throws IllegalArgumentException {
        if (n < 1 || n > MOST_ROUNDS) {
            throw new IllegalArgumentException("not 1 .. 50 rounds");
        }
        for (int round = 0; round < n; round++) {
            int first = mail.onWay.size;
            for (int k = 0; k < first; k++) {
                arrive(mail.onWay.take(0));
            }
            for (int i = 0; i < mainCount; i++) {
                tickMain(i);
            }
        }
        return mail.onWay.size;
    }

    /** Promise 9. */
    public int crash(int node, boolean on) throws IndexOutOfBoundsException {
        checkNode(node);
        int was = nodes[node].crashed ? 1 : 0;
        nodes[node].crashed = on;
        // The document says of a node that is there again, without a word on what it was before,
        // that its ROLE is 0; so that holds for one that was not crashed, too.
        if (node < mainCount) {
            mains[node].lead.end();
        }
        return was;
    }

    /** Promise 10. */
    public int way() {
        return mail.onWay.size;
    }

    /** Promise 11. */
    public int message(int i, int what) throws IndexOutOfBoundsException {
        checkMessage(i);
        Message x = mail.onWay.at(i);
        if (x == null) {
            throw new IndexOutOfBoundsException("no such message");
        }
        switch (what) {
            case 0: return x.from;
            case 1: return x.to;
            case 2: return x.kind;
            case 3: return x.ballot;
            case 4: return x.slot;
            case 5: return x.command;
            default: throw new IndexOutOfBoundsException("a message has 0 .. 5");
        }
    }

    /** Promise 12. */
    public int decided(int node, int slot) throws IndexOutOfBoundsException {
        checkMain(node);
        if (!mains[node].log.has(slot)) {
            throw new IndexOutOfBoundsException("no command is known for the slot");
        }
        return mains[node].log.commands[slot];
    }

    /** Promise 13. */
    public int about(int node, int what) throws IndexOutOfBoundsException {
        checkNode(node);
        Main main = mainOf(node);
        switch (what) {
            case 0: return main == null ? 0 : main.log.known;
            case 1: return main == null ? NO_ROLE : main.lead.role;
            case 2: return main == null ? 0 : main.lead.ballot;
            case 3: return nodes[node].promised;
            case 4: return nodes[node].kept.low;
            case 5: return nodes[node].kept.count();
            case 6: return main == null ? 0 : main.waiting.size;
            case 7: return main == null ? 0 : main.log.size;
            case 8: return nodes[node].came;
            default: throw new IndexOutOfBoundsException("a node has 0 .. 8");
        }
    }

    /** Promise 14. */
    public int accepted(int node, int slot, int what) throws IndexOutOfBoundsException {
        checkNode(node);
        if (slot < 0 || slot >= SLOTS || what < 0 || what > 1) {
            throw new IndexOutOfBoundsException("no such slot, or not 0 or 1");
        }
        Row kept = nodes[node].kept;
        return what == 0 ? kept.ballots[slot] : kept.commands[slot];
    }

    /** Promise 15. */
    public int members(int node, int slot) throws IndexOutOfBoundsException {
        checkMain(node);
        Log log = mains[node].log;
        if (slot < 0 || slot >= log.known + AHEAD) {
            throw new IndexOutOfBoundsException("the slot is too far");
        }
        return log.membersAt(slot);
    }

    /** Promise 16. */
    public int lost() {
        return mail.lostCount;
    }

    private void checkNode(int node) {
        if (node < 0 || node >= nodeCount) {
            throw new IndexOutOfBoundsException("no such node");
        }
    }

    private void checkMain(int node) {
        if (node < 0 || node >= mainCount) {
            throw new IndexOutOfBoundsException("no such main");
        }
    }

    private void checkMessage(int i) {
        if (i < 0 || i >= mail.onWay.size) {
            throw new IndexOutOfBoundsException("no such message");
        }
    }

    private Main mainOf(int node) {
        return node >= 0 && node < mainCount ? mains[node] : null;
    }

    private static int nextBallot(int above, int node) {
        int ballot = above - above % BALLOT_STEP + node;
        if (ballot <= above || ballot < BALLOT_STEP) {
            ballot += BALLOT_STEP;
        }
        return ballot;
    }

    /** A QUORUM of a slot that has these MEMBERS. */
    private boolean isQuorum(int who, int memberBits) {
        int those = who & memberBits;
        if (those == 0) {
            return false;
        }
        int all = memberBits | spareBits;
        return those == memberBits || 2 * Integer.bitCount(who & all) > Integer.bitCount(all);
    }

    private int arrive(Message x) {
        if (x == null) {
            return 0;
        }
        int kind = x.kind;
        if (!nodes[x.to].crashed) {
            handle(x);
            settle(x.to);
        }
        mail.release(x);
        return kind;
    }

    /** What a node sent to itself comes before it goes on, and going on may send it more. */
    private void settle(int node) {
        Main main = mainOf(node);
        if (main == null) {
            return;
        }
        for (int k = 0; k < MANY; k++) {
            Message x = mail.toSelf.take(0);
            if (x != null) {
                handle(x);
                mail.release(x);
            } else if (!goOn(node, main)) {
                return;
            }
        }
    }

    private void handle(Message x) {
        Node node = nodes[x.to];
        Main main = mainOf(x.to);
        node.came++;
        if (main != null && main.lead.role != NO_ROLE && x.ballot > main.lead.ballot) {
            main.lead.end();
        }
        switch (x.kind) {
            case PREPARE: onPrepare(node, main, x); break;
            case PROMISE: onPromise(main, x); break;
            case ACCEPT: onAccept(node, x); break;
            case TAKEN: onTaken(main, x); break;
            case DECIDED: onDecided(main, x); break;
            case TOLD: onTold(main, x); break;
            case FORGET: node.kept.forget(x.slot); break;
            default: break;
        }
    }

    private void onPrepare(Node node, Main main, Message x) {
        if (x.ballot < node.promised) {
            mail.send(x.to, x.from, REFUSED, node.promised, 0, 0);
            return;
        }
        node.promised = x.ballot;
        if (main != null) {
            for (int s = Math.max(0, x.slot); s < main.log.end; s++) {
                if (main.log.has(s)) {
                    mail.send(x.to, x.from, DECIDED, 0, s, main.log.commands[s]);
                }
            }
        }
        Message back = mail.send(x.to, x.from, PROMISE, x.ballot, node.kept.low, 0);
        if (back == null) {
            return;
        }
        Row told = back.room();
        told.copy(node.kept);
        if (main != null) {
            main.log.layOver(told);
        }
    }

    private void onPromise(Main main, Message x) {
        if (main == null || main.lead.role == NO_ROLE || main.lead.ballot != x.ballot) {
            return;
        }
        main.lead.countPromise(x.from, x.room());
        int known = main.log.known;
        if (main.lead.role == PREPARING
                && isQuorum(main.lead.promisedFor(known), main.log.membersAt(known))) {
            main.lead.role = LEADING;
        }
    }

    private void onAccept(Node node, Message x) {
        if (x.ballot < node.promised) {
            mail.send(x.to, x.from, REFUSED, node.promised, 0, 0);
            return;
        }
        node.promised = x.ballot;
        if (x.slot >= node.kept.low) {
            node.kept.put(x.slot, x.ballot, x.command);
            mail.send(x.to, x.from, TAKEN, x.ballot, x.slot, 0);
        }
    }

    private void onTaken(Main main, Message x) {
        if (main == null || main.lead.role != LEADING || main.lead.ballot != x.ballot
                || !main.lead.hasProposed(x.slot)) {
            return;
        }
        main.lead.takers[x.slot] |= 1 << x.from;
        if (main.log.has(x.slot)
                || !isQuorum(main.lead.takers[x.slot], main.log.membersAt(x.slot))) {
            return;
        }
        int command = main.lead.commands[x.slot];
        learn(x.to, main, x.slot, command);
        for (int i = 0; i < mainCount; i++) {
            if (i != x.to) {
                mail.send(x.to, i, DECIDED, 0, x.slot, command);
            }
        }
    }

    private void onDecided(Main main, Message x) {
        if (main == null) {
            return;
        }
        learn(x.to, main, x.slot, x.command);
        mail.send(x.to, x.from, TOLD, 0, main.log.known, 0);
    }

    private void onTold(Main main, Message x) {
        if (main != null && main.lead.role == LEADING && x.from < mainCount) {
            main.lead.told[x.from] = Math.max(main.lead.told[x.from], x.slot);
        }
    }

    private void learn(int node, Main main, int slot, int command) {
        main.log.put(slot, command);
        if (!main.log.isMember(node)) {
            main.lead.end();
        }
    }

    /** GOING ON: whether it sent something to itself by that. */
    private boolean goOn(int node, Main main) {
        for (int k = 0; k < SLOTS; k++) {
            int slot = main.lead.role == LEADING ? firstFree(main) : NONE;
            if (slot == NONE || !hasPromisesFor(main, slot)) {
                break;
            }
            int command = commandFor(main, slot);
            if (command == NO_COMMAND) {
                break;
            }
            main.lead.propose(slot, command);
            sendAccepts(node, slot, main.log.membersAt(slot));
        }
        return mail.toSelf.size > 0;
    }

    private static int firstFree(Main main) {
        int end = main.log.windowEnd();
        for (int s = main.log.known; s < end; s++) {
            if (!main.lead.hasProposed(s) && !main.log.has(s)) {
                return s;
            }
        }
        return NONE;
    }

    private boolean hasPromisesFor(Main main, int slot) {
        return isQuorum(main.lead.promisedFor(slot), main.log.membersAt(slot));
    }

    private static int commandFor(Main main, int slot) {
        int who = main.lead.promisedFor(slot);
        int best = main.lead.bestTold(who, slot);
        if (best != NO_COMMAND) {
            return best;
        }
        return main.lead.toldBehind(who, slot) ? 0 : main.waiting.takeFirst();
    }

    private void sendPrepares(int node, int to) {
        Main main = mains[node];
        for (int i = 0; i < nodeCount; i++) {
            if ((to >> i & 1) != 0) {
                mail.send(node, i, PREPARE, main.lead.ballot, main.log.known, 0);
            }
        }
        main.lead.asked |= to;
    }

    private void sendAccepts(int node, int slot, int to) {
        Lead lead = mains[node].lead;
        for (int i = 0; i < nodeCount; i++) {
            if ((to >> i & 1) != 0) {
                mail.send(node, i, ACCEPT, lead.ballot, slot, lead.commands[slot]);
            }
        }
        lead.asked |= to;
    }

    private void tickMain(int node) {
        Main main = mains[node];
        if (nodes[node].crashed || main.lead.role == NO_ROLE) {
            return;
        }
        prepareAgain(node, main);
        if (main.lead.role == LEADING) {
            int end = main.log.windowEnd();
            for (int s = main.log.known; s < end; s++) {
                if (main.isOpen(s)) {
                    pressSlot(node, main, s);
                }
            }
            fillBehindGoing(main);
            letSparesForget(node, main);
        }
        settle(node);
    }

    private void prepareAgain(int node, Main main) {
        main.lead.ticks++;
        if (main.lead.ticks % RESEND_EVERY != 0) {
            return;
        }
        if (main.lead.role == LEADING) {
            int slot = firstFree(main);
            if (slot == NONE || hasPromisesFor(main, slot)) {
                return;
            }
        }
        int all = main.log.membersAt(main.log.known) | spareBits;
        sendPrepares(node, all & ~main.lead.promised);
    }

    private void pressSlot(int node, Main main, int slot) {
        main.lead.slotTicks[slot]++;
        int count = main.lead.slotTicks[slot];
        if (count % RESEND_EVERY == 0) {
            int all = main.log.membersAt(slot) | spareBits;
            sendAccepts(node, slot, all & ~main.lead.takers[slot]);
        }
        if (count == TAKE_OUT_AT) {
            takeOutSilent(node, main, slot);
        }
    }

    private void takeOutSilent(int node, Main main, int slot) {
        int last = main.log.membersAt(main.log.known + AHEAD - 1);
        if ((last >> node & 1) == 0) {
            return;
        }
        int going = main.waiting.goingBits() | main.lead.going | main.log.going;
        int out = last & ~(1 << node) & ~main.lead.takers[slot] & ~going;
        for (int x = 0; x < mainCount; x++) {
            if ((out >> x & 1) != 0) {
                main.waiting.addGoing(-1 - x);
            }
        }
    }

    /** A main is out only some slots behind the command for it, so these must be filled. */
    private static void fillBehindGoing(Main main) {
        Log log = main.log;
        if (log.lastGoing == NONE || log.known >= log.lastGoing + AHEAD || main.waiting.size > 0) {
            return;
        }
        int end = log.windowEnd();
        for (int s = log.known; s < end; s++) {
            if (main.isOpen(s)) {
                return;
            }
        }
        main.waiting.addLast(0);
    }

    private void letSparesForget(int node, Main main) {
        int others = main.log.membersAt(main.log.known) & ~(1 << node);
        int k = main.log.known;
        for (int i = 0; i < mainCount; i++) {
            if ((others >> i & 1) != 0) {
                k = Math.min(k, main.lead.told[i]);
            }
        }
        if (k <= main.lead.forgotten) {
            return;
        }
        main.lead.forgotten = k;
        for (int i = mainCount; i < nodeCount; i++) {
            if ((main.lead.asked >> i & 1) != 0) {
                mail.send(node, i, FORGET, 0, k, 0);
            }
        }
    }

    private static boolean isSlot(int slot) {
        return slot >= 0 && slot < SLOTS;
    }

    /** What every node keeps; a spare has nothing else. */
    private static final class Node {
        final Row kept = new Row();
        boolean crashed;
        int promised;
        int came;
    }

    /** What a main has beside what every node keeps. */
    private static final class Main {
        final Log log;
        final Waiting waiting;
        final Lead lead;

        Main(int mainCount, int nodeCount) {
            log = new Log(mainCount);
            waiting = new Waiting();
            lead = new Lead(nodeCount);
        }

        /** PROPOSED, and not decided as far as it knows. */
        boolean isOpen(int slot) {
            return lead.hasProposed(slot) && !log.has(slot);
        }
    }

    /** For each slot a BALLOT and a command; BALLOT 0 stands for nothing. */
    private static final class Row {
        final int[] ballots = new int[SLOTS];
        final int[] commands = new int[SLOTS];
        int low;
        /** One above the last slot that has something. */
        int end;

        void put(int slot, int ballot, int command) {
            if (!isSlot(slot)) {
                return;
            }
            ballots[slot] = ballot;
            commands[slot] = command;
            end = Math.max(end, slot + 1);
        }

        void forget(int k) {
            if (k <= low) {
                return;
            }
            int until = Math.min(k, end);
            for (int s = low; s < until; s++) {
                ballots[s] = 0;
                commands[s] = 0;
            }
            low = k;
            if (end <= k) {
                end = 0;
            }
        }

        void copy(Row other) {
            // Behind both ends both rows are empty.
            int length = Math.max(end, other.end);
            System.arraycopy(other.ballots, 0, ballots, 0, length);
            System.arraycopy(other.commands, 0, commands, 0, length);
            low = other.low;
            end = other.end;
        }

        int count() {
            int n = 0;
            for (int s = 0; s < end; s++) {
                if (ballots[s] != 0) {
                    n++;
                }
            }
            return n;
        }
    }

    /** The commands that a main knows to be decided, and the MEMBERS that follow from them. */
    private static final class Log {
        final boolean[] there = new boolean[SLOTS];
        final int[] commands = new int[SLOTS];
        /** Right for the slots below known + AHEAD. */
        final int[] memberBits = new int[SLOTS + AHEAD];
        int known;
        int size;
        int end;
        /** The mains for which a command that takes them out is here. */
        int going;
        int lastGoing = NONE;

        Log(int mainCount) {
            for (int s = 0; s < AHEAD; s++) {
                memberBits[s] = (1 << mainCount) - 1;
            }
        }

        boolean has(int slot) {
            return isSlot(slot) && there[slot];
        }

        int membersAt(int slot) {
            return slot >= 0 && slot < SLOTS + AHEAD ? memberBits[slot] : 0;
        }

        boolean isMember(int node) {
            return (membersAt(known) >> node & 1) != 0;
        }

        /** One above the last slot that may be PROPOSED. */
        int windowEnd() {
            return Math.min(SLOTS, known + AHEAD);
        }

        void put(int slot, int command) {
            if (!isSlot(slot) || there[slot]) {
                return;
            }
            there[slot] = true;
            commands[slot] = command;
            size++;
            end = Math.max(end, slot + 1);
            if (command < 0) {
                going |= goingBit(command);
                lastGoing = Math.max(lastGoing, slot);
            }
            while (known < SLOTS && there[known]) {
                int out = goingBit(commands[known]);
                memberBits[known + AHEAD] = memberBits[known + AHEAD - 1] & ~out;
                known++;
            }
        }

        void layOver(Row row) {
            for (int s = 0; s < end; s++) {
                if (there[s]) {
                    row.put(s, DECIDED_BALLOT, commands[s]);
                }
            }
        }
    }

    /** The bit of the main that goes by a command, or 0. */
    private static int goingBit(int command) {
        return command < 0 && command >= -MOST_MAINS ? 1 << (-1 - command) : 0;
    }

    /** What waits at a main: first the commands that take mains out, then all else. */
    private static final class Waiting {
        final int[] row = new int[MOST_WAIT + MOST_MAINS];
        int size;
        int goingCount;

        void addLast(int command) {
            if (size < row.length) {
                row[size] = command;
                size++;
            }
        }

        void addGoing(int command) {
            if (size >= row.length) {
                return;
            }
            for (int k = size; k > goingCount; k--) {
                row[k] = row[k - 1];
            }
            row[goingCount] = command;
            goingCount++;
            size++;
        }

        int takeFirst() {
            if (size == 0) {
                return NO_COMMAND;
            }
            int first = row[0];
            size--;
            for (int k = 0; k < size; k++) {
                row[k] = row[k + 1];
            }
            if (goingCount > 0) {
                goingCount--;
            }
            return first;
        }

        int goingBits() {
            int bits = 0;
            for (int k = 0; k < goingCount; k++) {
                bits |= goingBit(row[k]);
            }
            return bits;
        }
    }

    /** A main's ROLE with its BALLOT, and all that is gone with it. */
    private static final class Lead {
        final Row[] promises;
        final boolean[] proposed = new boolean[SLOTS];
        final int[] commands = new int[SLOTS];
        final int[] takers = new int[SLOTS];
        final int[] slotTicks = new int[SLOTS];
        final int[] told = new int[MOST_MAINS];
        int role;
        int ballot;
        int ticks;
        int promised;
        /** The mains for which a command that takes them out is PROPOSED. */
        int going;
        /** The nodes to which a PREPARE or ACCEPT went with this BALLOT. */
        int asked;
        int forgotten;

        Lead(int nodeCount) {
            promises = new Row[nodeCount];
            for (int i = 0; i < nodeCount; i++) {
                promises[i] = new Row();
            }
        }

        void begin(int newBallot) {
            end();
            role = PREPARING;
            ballot = newBallot;
        }

        void end() {
            if (role == NO_ROLE) {
                return;
            }
            for (int s = 0; s < SLOTS; s++) {
                proposed[s] = false;
            }
            Arrays.fill(takers, 0);
            Arrays.fill(slotTicks, 0);
            Arrays.fill(told, 0);
            role = NO_ROLE;
            ballot = 0;
            ticks = 0;
            promised = 0;
            going = 0;
            asked = 0;
            forgotten = 0;
        }

        void countPromise(int node, Row row) {
            if (node >= 0 && node < promises.length) {
                promises[node].copy(row);
                promised |= 1 << node;
            }
        }

        /** Those that promised and have not forgotten what they accepted for the slot. */
        int promisedFor(int slot) {
            int who = 0;
            for (int i = 0; i < promises.length; i++) {
                if ((promised >> i & 1) != 0 && promises[i].low <= slot) {
                    who |= 1 << i;
                }
            }
            return who;
        }

        int bestTold(int who, int slot) {
            int ballotOfBest = 0;
            int best = NO_COMMAND;
            for (int i = 0; i < promises.length && isSlot(slot); i++) {
                if ((who >> i & 1) != 0 && promises[i].ballots[slot] > ballotOfBest) {
                    ballotOfBest = promises[i].ballots[slot];
                    best = promises[i].commands[slot];
                }
            }
            return best;
        }

        boolean toldBehind(int who, int slot) {
            for (int i = 0; i < promises.length; i++) {
                if ((who >> i & 1) != 0 && promises[i].end > slot + 1) {
                    return true;
                }
            }
            return false;
        }

        boolean hasProposed(int slot) {
            return isSlot(slot) && proposed[slot];
        }

        void propose(int slot, int command) {
            if (isSlot(slot)) {
                proposed[slot] = true;
                commands[slot] = command;
                going |= goingBit(command);
            }
        }
    }

    /** Field values that a kind of message has not are 0. */
    private static final class Message {
        int from;
        int to;
        int kind;
        int ballot;
        int slot;
        int command;
        /** What a PROMISE tells; kept when the message is used again for another one. */
        private Row told;

        void set(int newFrom, int newTo, int newKind, int newBallot, int newSlot, int newCommand) {
            from = newFrom;
            to = newTo;
            kind = newKind;
            ballot = newBallot;
            slot = newSlot;
            command = newCommand;
        }

        Row room() {
            if (told == null) {
                told = new Row();
            }
            return told;
        }
    }

    /** A ring, so that taking the first one, which is what rounds do, moves no other. */
    private static final class Queue {
        final Message[] ring = new Message[MOST_ON_WAY];
        int head;
        int size;

        private int place(int i) {
            int p = head + i;
            return p >= MOST_ON_WAY ? p - MOST_ON_WAY : p;
        }

        Message at(int i) {
            return i >= 0 && i < size ? ring[place(i)] : null;
        }

        void add(Message x) {
            if (size < MOST_ON_WAY) {
                ring[place(size)] = x;
                size++;
            }
        }

        Message take(int i) {
            Message x = at(i);
            if (x == null) {
                return null;
            }
            for (int k = i; k > 0; k--) {
                ring[place(k)] = ring[place(k - 1)];
            }
            ring[head] = null;
            head = place(1);
            size--;
            return x;
        }
    }

    /** What is on the way, what a node sent to itself, and messages to be used again. */
    private static final class Mail {
        final Queue onWay = new Queue();
        final Queue toSelf = new Queue();
        final Message[] unused = new Message[MOST_MESSAGES];
        int unusedCount;
        int lostCount;

        /** The message, or null if it is lost. */
        Message send(int from, int to, int kind, int ballot, int slot, int command) {
            Queue queue = from == to ? toSelf : onWay;
            if (queue.size >= MOST_ON_WAY) {
                lostCount++;
                return null;
            }
            Message x = null;
            if (unusedCount > 0) {
                unusedCount--;
                x = unused[unusedCount];
            }
            if (x == null) {
                x = new Message();
            }
            x.set(from, to, kind, ballot, slot, command);
            queue.add(x);
            return x;
        }

        void sendAgain(Message x) {
            if (x == null) {
                return;
            }
            Message again = send(x.from, x.to, x.kind, x.ballot, x.slot, x.command);
            if (again != null && x.kind == PROMISE) {
                again.room().copy(x.room());
            }
        }

        void release(Message x) {
            if (x != null && unusedCount < unused.length) {
                unused[unusedCount] = x;
                unusedCount++;
            }
        }
    }
}
