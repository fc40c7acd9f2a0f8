/** Promise 4, deliver: its kind, and a message that is not on the way. */
final class Promise4Test {
    private static final Due due = new Due();

    public static void main(String[] args) {
        firstMiddleLast();
        notOnTheWay();
        lastOfThreeHundred();
        toACrashedNode();
        due.end("Promise4Test");
    }

    private static void firstMiddleLast() {
        CheapVotes x = new CheapVotes(4);
        x.campaign(0);
        due.same("the last", x.deliver(2), 1);
        due.onWay("its PROMISE is behind", x, Due.mail(0, 1, 1, 8, 0, 0),
            Due.mail(0, 2, 1, 8, 0, 0), Due.mail(3, 0, 2, 8, 0, 0));
        due.same("the middle one", x.deliver(1), 1);
        due.onWay("the others in order", x, Due.mail(0, 1, 1, 8, 0, 0),
            Due.mail(3, 0, 2, 8, 0, 0), Due.mail(2, 0, 2, 8, 0, 0));
        due.same("the first", x.deliver(0), 1);
        due.same("PROMISE", x.deliver(0), 2);
        due.same("way", x.way(), 2);
    }

    private static void notOnTheWay() {
        due.refusedLeaves("nothing on the way", Due.INDEX, () -> Due.led(3), x -> x.deliver(0));
        int last = Scenes.busy().way() - 1;
        due.same("the last", Scenes.busy().deliver(last) > 0 ? 1 : 0, 1);
        int[] wrong = {-1, last + 1, 299, 300, Integer.MIN_VALUE, Integer.MAX_VALUE};
        for (int i : wrong) {
            due.refusedLeaves("deliver " + i, Due.INDEX, Scenes::busy, x -> x.deliver(i));
        }
    }

    private static void lastOfThreeHundred() {
        CheapVotes x = Scenes.onWay(300);
        due.refused("deliver 300", Due.INDEX, () -> x.deliver(300));
        due.same("deliver 299", x.deliver(299), 1);
        due.same("its PROMISE has found room", x.message(299, 2), 2);
        due.same("lost", x.lost(), 0);
    }

    private static void toACrashedNode() {
        CheapVotes x = new CheapVotes(2);
        x.campaign(0);
        x.repeat(0);
        x.crash(1, true);
        due.same("its kind", x.deliver(0), 1);
        due.same("one is left", x.way(), 1);
        due.same("it did not come", x.about(1, 8), 0);
        due.same("nor is PROMISED", x.about(1, 3), 0);
        x.crash(1, false);
        due.same("there again", x.deliver(0), 1);
        due.same("it came", x.about(1, 8), 1);
        due.onWay("PROMISE", x, Due.mail(1, 0, 2, 8, 0, 0));
    }
}
