/** Promise 8, run: 1 .. 50 rounds of all that is on the way at first, and a TICK. */
final class Promise8Test {
    private static final Due due = new Due();

    public static void main(String[] args) {
        onlyWhatWasThereAtFirst();
        notOneToFifty();
        fiftyRounds();
        threeHundredOnTheWay();
        nothingOnTheWay();
        deliveriesAndThenATick();
        due.end("Promise8Test");
    }

    private static void onlyWhatWasThereAtFirst() {
        CheapVotes x = new CheapVotes(3);
        x.campaign(0);
        due.same("two PROMISEs", x.run(1), 2);
        due.onWay("PROMISEs", x, Due.mail(1, 0, 2, 8, 0, 0), Due.mail(2, 0, 2, 8, 0, 0));
        due.same("still PREPARING", x.about(0, 1), 1);
        due.same("run 1", x.run(1), 0);
        due.same("LEADING", x.about(0, 1), 2);
    }

    private static void notOneToFifty() {
        int[] wrong = {0, -1, 51, 100, Integer.MIN_VALUE, Integer.MAX_VALUE};
        for (int n : wrong) {
            due.refusedLeaves("run " + n, Due.ARGUMENT, Scenes::busy, x -> x.run(n));
        }
    }

    /** PREPAREs that nobody answers count the rounds. */
    private static CheapVotes unanswered() {
        CheapVotes x = new CheapVotes(2);
        x.crash(1, true);
        x.crash(2, true);
        x.campaign(0);
        return x;
    }

    private static void fiftyRounds() {
        CheapVotes x = unanswered();
        due.same("run 50", x.run(50), 0);
        due.same("the 51st is the next 3rd one", x.run(1), 2);
        CheapVotes y = unanswered();
        due.same("run 49", y.run(49), 0);
        due.same("the 50th", y.run(1), 0);
        due.same("the 51st", y.run(1), 2);
        CheapVotes once = unanswered();
        due.same("run 1", once.run(1), 0);
        due.same("the 2nd and 3rd", once.run(2), 2);
    }

    /** Each that comes leaves room for its answer, so none is lost in a round of such. */
    private static void threeHundredOnTheWay() {
        CheapVotes x = Scenes.onWay(300);
        due.same("300 PROMISEs", x.run(1), 300);
        due.same("lost", x.lost(), 0);
        due.same("came", x.about(1, 8), 300);
        due.same("all come", x.run(1), 0);
        due.same("came", x.about(0, 8), 302);
        due.same("LEADING", x.about(0, 1), 2);
    }

    private static void nothingOnTheWay() {
        CheapVotes x = new CheapVotes(3);
        due.same("run 1", x.run(1), 0);
        due.same("run 50", x.run(50), 0);
    }

    /** Promise 8 by promises 4 and 7. */
    private static void deliveriesAndThenATick() {
        CheapVotes run = Due.led(4);
        CheapVotes hand = Due.led(4);
        CheapVotes[] both = {run, hand};
        for (CheapVotes x : both) {
            x.crash(3, true);
            for (int k = 1; k <= 9; k++) {
                x.submit(0, k);
            }
        }
        for (int round = 0; round < 30; round++) {
            int first = hand.way();
            for (int k = 0; k < first; k++) {
                hand.deliver(0);
            }
            hand.tick();
            due.same("run", run.run(1), hand.way());
            for (int node = 0; node < 7; node++) {
                for (int k = 0; k < 9; k++) {
                    due.same("about", run.about(node, k), hand.about(node, k));
                }
            }
        }
        due.same("all nine", run.about(0, 0) >= 9 ? 1 : 0, 1);
    }
}
