/** Promise 14, accepted: slots 0 .. 99 of every node, 0 for none, and what there is not. */
final class Promise14Test {
    private static final Due due = new Due();

    public static void main(String[] args) {
        zeroForNone();
        lastSlot();
        whatThereIsNot();
        forgottenIsNone();
        theLatestIsKept();
        due.end("Promise14Test");
    }

    private static void zeroForNone() {
        CheapVotes x = Due.led(2);
        x.submit(0, 5);
        due.same("its own", x.accepted(0, 0, 0), 8);
        due.same("its own", x.accepted(0, 0, 1), 5);
        due.same("none", x.accepted(0, 1, 0), 0);
        due.same("none", x.accepted(0, 1, 1), 0);
        due.same("none at main 1", x.accepted(1, 0, 0), 0);
        due.same("none at main 1", x.accepted(1, 0, 1), 0);
        due.same("none at a spare", x.accepted(2, 99, 0), 0);
        x.deliver(0);
        due.same("now main 1", x.accepted(1, 0, 0), 8);
        due.same("now main 1", x.accepted(1, 0, 1), 5);
    }

    private static void lastSlot() {
        CheapVotes x = Scenes.known(2, 100);
        due.same("slot 99", x.accepted(0, 99, 0), 8);
        due.same("slot 99", x.accepted(1, 99, 1), 100);
        due.same("slot 99", Scenes.known(2, 99).accepted(0, 99, 0), 0);
        due.refused("slot 100", Due.INDEX, () -> x.accepted(0, 100, 0));
    }

    private static void whatThereIsNot() {
        due.same("the last spare", Scenes.busy().accepted(4, 99, 1), 0);
        int[][] wrong = {{-1, 0, 0}, {5, 0, 0}, {0, -1, 0}, {0, 100, 0}, {0, 0, -1}, {0, 0, 2},
            {4, 100, 1}, {4, 99, 2}, {5, 99, 1}, {0, 100, 1}, {0, 101, 0},
            {Integer.MAX_VALUE, 0, 0}, {Integer.MIN_VALUE, 0, 0}, {0, Integer.MIN_VALUE, 0},
            {0, Integer.MAX_VALUE, 0}, {0, 0, Integer.MAX_VALUE}, {0, 0, Integer.MIN_VALUE}};
        for (int[] w : wrong) {
            due.refusedLeaves("accepted" + java.util.Arrays.toString(w), Due.INDEX, Scenes::busy,
                x -> x.accepted(w[0], w[1], w[2]));
        }
    }

    private static void forgottenIsNone() {
        CheapVotes x = Due.led(2);
        x.submit(0, 5);
        Due.ticks(x, 3);
        Due.deliverAll(x);
        due.same("a spare", x.accepted(2, 0, 0), 8);
        due.same("a spare", x.accepted(2, 0, 1), 5);
        x.tick();
        Due.deliverAll(x);
        due.same("LOW", x.about(2, 4), 1);
        due.same("below LOW", x.accepted(2, 0, 0), 0);
        due.same("below LOW", x.accepted(2, 0, 1), 0);
    }

    /** Main 0 has 5 with 8; main 1 leads with 9 by the spare, and PROPOSES 6 for the same slot. */
    private static void theLatestIsKept() {
        CheapVotes x = Due.led(2);
        x.submit(0, 5);
        Due.loseAll(x);
        x.crash(0, true);
        x.campaign(1);
        x.run(4);
        x.run(1);
        due.same("LEADING", x.about(1, 1), 2);
        Due.loseAll(x);
        x.submit(1, 6);
        due.same("8 for now", x.accepted(0, 0, 0), 8);
        due.same("5 for now", x.accepted(0, 0, 1), 5);
        x.crash(0, false);
        Due.deliverTo(x, 0, 3);
        due.same("the latest BALLOT", x.accepted(0, 0, 0), 9);
        due.same("its command", x.accepted(0, 0, 1), 6);
        due.same("one slot", x.about(0, 5), 1);
    }
}
