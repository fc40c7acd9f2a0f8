/** Promise 15, members: slots 0 .. KNOWN + 3 as a main knows them. */
final class Promise15Test {
    private static final Due due = new Due();

    public static void main(String[] args) {
        noSuchMain();
        slotsUpToKnownAndThree();
        knownIsWithoutAGap();
        fourSlotsBehind();
        due.end("Promise15Test");
    }

    private static void noSuchMain() {
        for (int mains = 2; mains <= 5; mains++) {
            CheapVotes x = new CheapVotes(mains);
            due.same("the last main", x.members(mains - 1, 3), (1 << mains) - 1);
        }
        int[] nodes = {-1, 3, 4, 5, Integer.MIN_VALUE, Integer.MAX_VALUE};
        for (int node : nodes) {
            due.refusedLeaves("members at " + node, Due.INDEX, Scenes::busy,
                x -> x.members(node, 0));
        }
    }

    private static void slotsUpToKnownAndThree() {
        int[] counts = {0, 1, 5, 96, 97, 99, 100};
        for (int n : counts) {
            CheapVotes x = Scenes.known(2, n);
            due.same("KNOWN", x.about(1, 0), n);
            for (int slot = 0; slot <= n + 3; slot++) {
                due.same("members for " + slot + " with " + n, x.members(1, slot), 3);
            }
            int[] wrong = {-1, n + 4, n + 5, Integer.MIN_VALUE, Integer.MAX_VALUE};
            for (int slot : wrong) {
                due.refusedLeaves("members for " + slot + " with " + n, Due.INDEX,
                    () -> Scenes.known(2, n), y -> y.members(1, slot));
            }
        }
    }

    private static void knownIsWithoutAGap() {
        CheapVotes x = Due.led(2);
        x.submit(0, 5);
        x.submit(0, 6);
        x.deliver(1);
        x.deliver(1);
        due.same("slot 1 is in its LOG", x.decided(0, 1), 6);
        due.same("KNOWN + 3", x.members(0, 3), 3);
        due.refused("KNOWN + 4", Due.INDEX, () -> x.members(0, 4));
    }

    /** Main 2 goes by slot 1: it is a MEMBER for slot 4 and not for slot 5. */
    private static void fourSlotsBehind() {
        CheapVotes x = Scenes.mainTwoGoes(2);
        due.same("the command", x.decided(0, 1), -3);
        for (int slot = 0; slot <= 8; slot++) {
            due.same("members for " + slot, x.members(0, slot), slot < 5 ? 7 : 3);
        }
        due.refused("KNOWN + 4", Due.INDEX, () -> x.members(0, 9));
        due.same("as main 2 knows them", x.members(2, 4), 7);
        due.same("as main 2 knows them", x.members(2, 5), 3);
        due.refused("KNOWN + 4 of main 2", Due.INDEX, () -> x.members(2, 6));
        CheapVotes y = Scenes.mainTwoGoes(1);
        due.same("main 2 does not know that it goes", y.members(2, 4), 7);
        due.refused("KNOWN + 4 of main 2", Due.INDEX, () -> y.members(2, 5));
    }
}
