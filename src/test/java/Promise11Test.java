/** Promise 11, message: every kind, 0 for what it has not, and what there is not. */
final class Promise11Test {
    private static final Due due = new Due();

    public static void main(String[] args) {
        everyKind();
        promiseHasItsLow();
        notOnTheWay();
        whatThereIsNot();
        due.end("Promise11Test");
    }

    /** Due.mail tells 0 for what the kind has not: no command, no BALLOT or no slot. */
    private static void everyKind() {
        CheapVotes x = Due.led(2);
        x.submit(0, 5);
        due.onWay("ACCEPT", x, Due.mail(0, 1, 3, 8, 0, 5));
        due.same("deliver", x.deliver(0), 3);
        due.onWay("TAKEN", x, Due.mail(1, 0, 4, 8, 0, 0));
        due.same("deliver", x.deliver(0), 4);
        due.onWay("DECIDED", x, Due.mail(0, 1, 5, 0, 0, 5));
        due.same("deliver", x.deliver(0), 5);
        due.onWay("TOLD", x, Due.mail(1, 0, 6, 0, 1, 0));
        due.same("deliver", x.deliver(0), 6);
        x.submit(0, 6);
        x.deliver(0);
        due.onWay("TAKEN of slot 1", x, Due.mail(1, 0, 4, 8, 1, 0));
        x.deliver(0);
        due.onWay("DECIDED of slot 1", x, Due.mail(0, 1, 5, 0, 1, 6));
        Due.deliverAll(x);
        x.campaign(0);
        due.onWay("PREPARE with KNOWN", x, Due.mail(0, 1, 1, 16, 2, 0));
        due.same("deliver", x.deliver(0), 1);
        due.onWay("PROMISE", x, Due.mail(1, 0, 2, 16, 0, 0));
        due.same("deliver", x.deliver(0), 2);
        due.same("campaign", x.campaign(1), 17);
        due.same("campaign", x.campaign(0), 24);
        due.same("deliver", x.deliver(0), 1);
        due.onWay("REFUSED", x, Due.mail(0, 1, 1, 24, 2, 0), Due.mail(0, 1, 8, 24, 0, 0));
        due.same("deliver", x.deliver(1), 8);
    }

    private static void promiseHasItsLow() {
        CheapVotes x = Due.led(2);
        x.submit(0, 5);
        x.submit(0, 6);
        Due.ticks(x, 3);
        Due.deliverAll(x);
        x.tick();
        due.onWay("FORGET", x, Due.mail(0, 2, 7, 0, 2, 0));
        due.same("deliver", x.deliver(0), 7);
        x.campaign(0);
        Due.loseAll(x);
        Due.ticks(x, 3);
        due.onWay("PREPAREs", x, Due.mail(0, 1, 1, 16, 2, 0), Due.mail(0, 2, 1, 16, 2, 0));
        x.deliver(1);
        due.same("from", x.message(1, 0), 2);
        due.same("PROMISE", x.message(1, 2), 2);
        due.same("its LOW", x.message(1, 4), 2);
        due.same("no command", x.message(1, 5), 0);
    }

    private static void notOnTheWay() {
        due.refusedLeaves("nothing on the way", Due.INDEX, () -> Due.led(3), x -> x.message(0, 0));
        int last = Scenes.busy().way() - 1;
        due.same("the last", Scenes.busy().message(last, 2) > 0 ? 1 : 0, 1);
        int[] wrong = {-1, last + 1, 299, 300, Integer.MIN_VALUE, Integer.MAX_VALUE};
        for (int i : wrong) {
            for (int what = 0; what < 6; what++) {
                int k = what;
                due.refusedLeaves("message " + i, Due.INDEX, Scenes::busy, x -> x.message(i, k));
            }
        }
        CheapVotes full = Scenes.onWay(300);
        due.same("299", full.message(299, 2), 1);
        due.refused("300", Due.INDEX, () -> full.message(300, 2));
    }

    private static void whatThereIsNot() {
        int[] wrong = {-1, 6, 7, Integer.MIN_VALUE, Integer.MAX_VALUE};
        for (int what : wrong) {
            due.refusedLeaves("what " + what, Due.INDEX, Scenes::busy, x -> x.message(0, what));
        }
    }
}
