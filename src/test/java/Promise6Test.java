/** Promise 6, repeat: how many there are, a message that is not on the way, 300 on the way. */
final class Promise6Test {
    private static final Due due = new Due();

    public static void main(String[] args) {
        behindAllOthers();
        notOnTheWay();
        threeHundred();
        tellsTheSame();
        due.end("Promise6Test");
    }

    private static void behindAllOthers() {
        CheapVotes x = new CheapVotes(3);
        x.campaign(0);
        due.same("the first", x.repeat(0), 3);
        due.same("the last", x.repeat(2), 4);
        due.same("the middle one", x.repeat(1), 5);
        due.onWay("again", x, Due.mail(0, 1, 1, 8, 0, 0), Due.mail(0, 2, 1, 8, 0, 0),
            Due.mail(0, 1, 1, 8, 0, 0), Due.mail(0, 1, 1, 8, 0, 0), Due.mail(0, 2, 1, 8, 0, 0));
    }

    private static void notOnTheWay() {
        due.refusedLeaves("nothing on the way", Due.INDEX, () -> Due.led(3), x -> x.repeat(0));
        int last = Scenes.busy().way() - 1;
        due.same("the last", Scenes.busy().repeat(last), last + 2);
        int[] wrong = {-1, last + 1, 299, 300, Integer.MIN_VALUE, Integer.MAX_VALUE};
        for (int i : wrong) {
            due.refusedLeaves("repeat " + i, Due.INDEX, Scenes::busy, x -> x.repeat(i));
        }
    }

    private static void threeHundred() {
        due.same("the 300th", Scenes.onWay(299).repeat(298), 300);
        int[] inside = {0, 150, 299};
        for (int i : inside) {
            due.refusedLeaves("repeat with 300", Due.STATE, () -> Scenes.onWay(300),
                x -> x.repeat(i));
        }
        int[] outside = {-1, 300};
        for (int i : outside) {
            due.refusedLeaves("repeat " + i + " with 300", Due.INDEX, () -> Scenes.onWay(300),
                x -> x.repeat(i));
        }
        CheapVotes x = Scenes.onWay(300);
        due.refused("repeat with 300", Due.STATE, () -> x.repeat(0));
        due.same("a refused one is not lost", x.lost(), 0);
        due.same("lose", x.lose(0), 299);
        due.same("room again", x.repeat(0), 300);
    }

    /** What a PROMISE tells cannot be seen on the way, but by what is PROPOSED then. */
    private static void tellsTheSame() {
        CheapVotes x = Due.led(2);
        x.submit(0, 5);
        x.lose(0);
        x.campaign(1);
        x.deliver(0);
        x.repeat(0);
        x.lose(0);
        x.deliver(0);
        due.onWay("told by the repeated one", x, Due.mail(1, 0, 3, 9, 0, 5));
    }
}
