/** Promise 9, crash: a node that there is not, and one that is crashed or is not. */
final class Promise9Test {
    private static final Due due = new Due();

    public static void main(String[] args) {
        noSuchNode();
        whetherItWasCrashed();
        whatIsKept();
        whatIsGone();
        thereAgainWithoutACrash();
        spares();
        due.end("Promise9Test");
    }

    private static void noSuchNode() {
        for (int mains = 2; mains <= 5; mains++) {
            CheapVotes x = new CheapVotes(mains);
            due.same("the first node", x.crash(0, true), 0);
            due.same("the last spare", x.crash(2 * mains - 2, true), 0);
        }
        int[] wrong = {-1, 5, 6, Integer.MIN_VALUE, Integer.MAX_VALUE};
        for (int node : wrong) {
            due.refusedLeaves("crash " + node, Due.INDEX, Scenes::busy, x -> x.crash(node, true));
            due.refusedLeaves("back " + node, Due.INDEX, Scenes::busy, x -> x.crash(node, false));
        }
    }

    private static void whetherItWasCrashed() {
        for (int node = 0; node < 5; node++) {
            CheapVotes x = Due.led(3);
            due.same("there, is there", x.crash(node, false), 0);
            due.same("there, crashes", x.crash(node, true), 0);
            due.same("crashed, crashes", x.crash(node, true), 1);
            due.same("crashed, is there again", x.crash(node, false), 1);
            due.same("there, is there", x.crash(node, false), 0);
        }
    }

    private static void whatIsKept() {
        CheapVotes x = Due.led(3);
        x.submit(0, 5);
        Due.deliverAll(x);
        x.campaign(0);
        Due.loseAll(x);
        x.submit(0, 6);
        int[] kept = {1, 0, 0, 16, 0, 1, 1, 1, x.about(0, 8)};
        boolean[] calls = {true, true, false, false};
        for (boolean on : calls) {
            x.crash(0, on);
            for (int k = 0; k < kept.length; k++) {
                due.same("about(0, " + k + ") behind crash " + on, x.about(0, k), kept[k]);
            }
            due.same("LOG", x.decided(0, 0), 5);
            due.same("ACCEPTED", x.accepted(0, 0, 0), 8);
            due.same("ACCEPTED", x.accepted(0, 0, 1), 5);
        }
        due.same("above what it PROMISED", x.campaign(0), 24);
    }

    /** What it PROPOSED, the promises and its ticks are gone, also when it is there again. */
    private static void whatIsGone() {
        CheapVotes x = Due.led(3);
        x.submit(0, 5);
        Due.ticks(x, 2);
        x.crash(0, true);
        due.same("ROLE", x.about(0, 1), 0);
        due.same("BALLOT", x.about(0, 2), 0);
        Due.ticks(x, 6);
        due.same("no tick for it", x.way(), 2);
        x.crash(0, false);
        due.same("ROLE", x.about(0, 1), 0);
        Due.ticks(x, 6);
        due.same("it leads no more", x.way(), 2);
        due.same("so this waits", x.submit(0, 6), 1);
        Due.deliverAll(x);
        due.same("what the others took does not count", x.about(0, 7), 0);
        due.same("nor does 5 wait", x.about(0, 6), 1);
    }

    /** "is there again (its ROLE is 0)": without a word on whether it was crashed. */
    private static void thereAgainWithoutACrash() {
        CheapVotes x = Due.led(3);
        x.submit(0, 5);
        due.same("was not crashed", x.crash(0, false), 0);
        due.same("ROLE", x.about(0, 1), 0);
        due.same("BALLOT", x.about(0, 2), 0);
        due.same("waits", x.submit(0, 6), 1);
        CheapVotes y = new CheapVotes(2);
        y.campaign(1);
        due.same("PREPARING", y.about(1, 1), 1);
        due.same("was not crashed", y.crash(1, false), 0);
        due.same("ROLE", y.about(1, 1), 0);
        due.same("the others keep theirs", Scenes.busy().crash(1, false), 0);
        CheapVotes z = Scenes.busy();
        z.crash(1, false);
        due.same("main 0 leads", z.about(0, 1), 2);
    }

    private static void spares() {
        CheapVotes x = Due.led(2);
        x.submit(0, 5);
        Due.ticks(x, 3);
        Due.deliverTo(x, 2, 3);
        x.crash(2, true);
        due.same("PROMISED", x.about(2, 3), 8);
        due.same("ACCEPTED", x.accepted(2, 0, 1), 5);
        Due.deliverAll(x);
        x.tick();
        due.onWay("FORGET", x, Due.mail(0, 2, 7, 0, 1, 0));
        x.repeat(0);
        due.same("to a crashed one", x.deliver(0), 7);
        due.same("LOW", x.about(2, 4), 0);
        x.crash(2, false);
        due.same("ACCEPTED", x.accepted(2, 0, 1), 5);
        due.same("now it comes", x.deliver(0), 7);
        due.same("LOW", x.about(2, 4), 1);
        x.crash(2, true);
        x.crash(2, false);
        due.same("LOW is kept", x.about(2, 4), 1);
    }
}
