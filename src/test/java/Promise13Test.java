/** Promise 13, about: 0 .. 8 of every node, and what there is not. */
final class Promise13Test {
    private static final Due due = new Due();

    public static void main(String[] args) {
        allNine();
        noSuchNode();
        whatThereIsNot();
        sparesHaveNoLog();
        edgesOfTheCounts();
        whatCameWhileItWasCrashed();
        due.end("Promise13Test");
    }

    private static void allNine() {
        CheapVotes x = Due.led(2);
        x.submit(0, 5);
        x.submit(0, 6);
        // The TAKEN of slot 1 comes alone, so that the LOG has a gap.
        x.deliver(1);
        x.deliver(1);
        int[] leader = {0, 2, 8, 8, 0, 2, 0, 1, 8};
        int[] other = {0, 0, 0, 8, 0, 1, 0, 0, 2};
        for (int k = 0; k < 9; k++) {
            due.same("about(0, " + k + ")", x.about(0, k), leader[k]);
            due.same("about(1, " + k + ")", x.about(1, k), other[k]);
            due.same("about(2, " + k + ")", x.about(2, k), 0);
        }
        Due.deliverAll(x);
        due.same("KNOWN without the gap", x.about(0, 0), 2);
    }

    private static void noSuchNode() {
        for (int mains = 2; mains <= 5; mains++) {
            due.same("the last spare", new CheapVotes(mains).about(2 * mains - 2, 8), 0);
        }
        int[] nodes = {-1, 5, 6, Integer.MIN_VALUE, Integer.MAX_VALUE};
        for (int node : nodes) {
            for (int what = 0; what < 9; what++) {
                int k = what;
                due.refusedLeaves("about " + node, Due.INDEX, Scenes::busy, x -> x.about(node, k));
            }
        }
    }

    private static void whatThereIsNot() {
        int[] wrong = {-1, 9, 10, Integer.MIN_VALUE, Integer.MAX_VALUE};
        for (int what : wrong) {
            due.refusedLeaves("of a main " + what, Due.INDEX, Scenes::busy, x -> x.about(0, what));
            due.refusedLeaves("of a spare " + what, Due.INDEX, Scenes::busy, x -> x.about(4, what));
        }
    }

    /** A spare that promised, took and forgot: KNOWN, ROLE, BALLOT, waiting and LOG are 0. */
    private static void sparesHaveNoLog() {
        CheapVotes x = Due.led(2);
        x.submit(0, 5);
        Due.ticks(x, 3);
        Due.deliverTo(x, 2, 3);
        int[] took = {0, 0, 0, 8, 0, 1, 0, 0, 1};
        for (int k = 0; k < 9; k++) {
            due.same("it took: about(2, " + k + ")", x.about(2, k), took[k]);
        }
        Due.deliverAll(x);
        x.tick();
        Due.deliverAll(x);
        int[] forgot = {0, 0, 0, 8, 1, 0, 0, 0, 2};
        for (int k = 0; k < 9; k++) {
            due.same("it forgot: about(2, " + k + ")", x.about(2, k), forgot[k]);
        }
    }

    private static void edgesOfTheCounts() {
        CheapVotes x = Scenes.known(2, 100);
        due.same("KNOWN", x.about(0, 0), 100);
        due.same("ACCEPTED", x.about(0, 5), 100);
        due.same("LOG", x.about(1, 7), 100);
        due.same("20 wait", Scenes.waiting(20).about(1, 6), 20);
        due.same("the greatest BALLOT", Scenes.campaigned(1000).about(0, 2), 8000);
        due.same("PROMISED", Scenes.campaigned(1000).about(0, 3), 8000);
    }

    private static void whatCameWhileItWasCrashed() {
        for (int node = 1; node < 3; node++) {
            CheapVotes x = new CheapVotes(2);
            x.campaign(0);
            Due.ticks(x, 3);
            x.crash(node, true);
            due.same("PREPARE", Due.deliverTo(x, node, 1) ? 1 : 0, 1);
            due.same("to a crashed one", x.about(node, 8), 0);
            x.crash(node, false);
            due.same("nor behind that", x.about(node, 8), 0);
        }
        CheapVotes x = new CheapVotes(2);
        x.campaign(0);
        x.repeat(0);
        x.deliver(0);
        x.crash(1, true);
        due.same("what came before counts", x.about(1, 8), 1);
        x.deliver(0);
        due.same("and no more", x.about(1, 8), 1);
    }
}
