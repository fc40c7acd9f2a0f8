/** Promise 5, lose: how many are left, and a message that is not on the way. */
final class Promise5Test {
    private static final Due due = new Due();

    public static void main(String[] args) {
        howManyAreLeft();
        notOnTheWay();
        due.same("of 300", Scenes.onWay(300).lose(299), 299);
        due.refusedLeaves("lose 300", Due.INDEX, () -> Scenes.onWay(300), x -> x.lose(300));
        due.end("Promise5Test");
    }

    private static void howManyAreLeft() {
        CheapVotes x = new CheapVotes(4);
        x.campaign(0);
        due.same("the middle one", x.lose(1), 2);
        due.onWay("left", x, Due.mail(0, 1, 1, 8, 0, 0), Due.mail(0, 3, 1, 8, 0, 0));
        due.same("the last", x.lose(1), 1);
        due.onWay("left", x, Due.mail(0, 1, 1, 8, 0, 0));
        due.same("the only one", x.lose(0), 0);
        due.refused("no more", Due.INDEX, () -> x.lose(0));
        for (int node = 1; node < 7; node++) {
            due.same("it came to nobody", x.about(node, 8), 0);
        }
        due.same("this is not what lost() counts", x.lost(), 0);
    }

    private static void notOnTheWay() {
        due.refusedLeaves("nothing on the way", Due.INDEX, () -> Due.led(3), x -> x.lose(0));
        int last = Scenes.busy().way() - 1;
        due.same("the last", Scenes.busy().lose(last), last);
        int[] wrong = {-1, last + 1, 299, 300, Integer.MIN_VALUE, Integer.MAX_VALUE};
        for (int i : wrong) {
            due.refusedLeaves("lose " + i, Due.INDEX, Scenes::busy, x -> x.lose(i));
        }
    }
}
