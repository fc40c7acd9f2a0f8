import java.util.Random;

/** Whatever comes late, twice or not at all: mains agree, and only the due exceptions come. */
final class AgreementTest {
    private static final int SEEDS = 600;
    private static final int CALLS = 512;
    private static final Due due = new Due();

    private final Random random;
    private final int mains;
    private final CheapVotes x;
    private final int[] row = new int[100];
    private final boolean[] there = new boolean[100];
    private final int[] known;
    private int command;

    private AgreementTest(long seed) {
        random = new Random(seed);
        mains = 2 + random.nextInt(4);
        x = new CheapVotes(mains);
        known = new int[mains];
    }

    public static void main(String[] args) {
        for (long seed = 0; seed < SEEDS; seed++) {
            new AgreementTest(seed).play();
        }
        due.end("AgreementTest");
    }

    private void play() {
        for (int k = 0; k < CALLS; k++) {
            try {
                anyCall();
            } catch (RuntimeException e) {
                boolean ours = e.getClass() == IndexOutOfBoundsException.class
                    || e.getClass() == IllegalArgumentException.class
                    || e.getClass() == IllegalStateException.class;
                due.same("thrown by the machine: " + e, ours ? 0 : 1, 0);
            }
            if (k % 16 == 0) {
                look();
            }
        }
        look();
    }

    private int anyOf(int n) {
        return random.nextInt(30) == 0 ? random.nextInt(n + 4) - 2 : random.nextInt(n);
    }

    private void anyCall() {
        int nodes = 2 * mains - 1;
        int i = random.nextInt(3) == 0 ? anyOf(x.way() + 1) : 0;
        switch (random.nextInt(20)) {
            case 0: case 1: case 2: case 3: x.submit(anyOf(mains), command++); break;
            case 4: x.campaign(anyOf(mains)); break;
            case 5: case 6: case 7: case 8: case 9: x.deliver(i); break;
            case 10: x.lose(i); break;
            case 11: case 12: x.repeat(i); break;
            case 13: case 14: x.tick(); break;
            case 15: case 16: case 17: x.run(anyOf(8)); break;
            default: x.crash(anyOf(nodes), random.nextInt(4) == 0); break;
        }
    }

    private void look() {
        due.same("way() is 0 .. 300", x.way() >= 0 && x.way() <= 300 ? 1 : 0, 1);
        for (int node = 0; node < mains; node++) {
            int now = x.about(node, 0);
            due.same("KNOWN never shrinks", Math.min(now, known[node]), known[node]);
            known[node] = now;
            lookAtLog(node);
        }
    }

    private void lookAtLog(int node) {
        int members = (1 << mains) - 1;
        for (int slot = 0; slot < known[node] + 4; slot++) {
            if (slot >= 4 && x.decided(node, slot - 4) < 0) {
                members &= ~(1 << (-1 - x.decided(node, slot - 4)));
            }
            due.same("members", x.members(node, slot), members);
        }
        for (int slot = 0; slot < known[node]; slot++) {
            int c = x.decided(node, slot);
            if (!there[slot]) {
                there[slot] = true;
                row[slot] = c;
            }
            due.same("all mains, at all times", c, row[slot]);
        }
        boolean leads = x.about(node, 1) != 0;
        boolean member = (x.members(node, known[node]) >> node & 1) != 0;
        due.same("only MEMBERS have a ROLE", leads && !member ? 1 : 0, 0);
    }
}
