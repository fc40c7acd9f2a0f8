/** Promise 6, repeat: how many there are, a message that is not on the way, 300 on the way. */
final class Promise6Test {
    private static final Due due = new Due();

    public static void main(String[] args) {
        behindAllOthers();
        notOnTheWay();
        threeHundred();
        tellsTheSame();
        sameInAll();
        due.end("Promise6Test");
    }

    private static void behindAllOthers() {
        CheapVotes x = new CheapVotes(3);
        x.campaign(0);
        due.same("the first", x.repeat(0), 3);
        due.same("the last", x.repeat(2), 4);
        due.same("the middle one", x.repeat(1), 5);
        due.onWay("again", x, Due.mail(0, 1, 1, 8, 0, 0), Due.mail(0, 2, 1, 8, 0, 0),
            Due.mail(0, 1, 1, 8, 0, 0), Due.mail(0, 1, 1, 8, 0, 0), Due.mail(0, 2, 1, 8, 0, 0));
    }

    private static void notOnTheWay() {
        due.refusedLeaves("nothing on the way", Due.INDEX, () -> Due.led(3), x -> x.repeat(0));
        int last = Scenes.busy().way() - 1;
        due.same("the last", Scenes.busy().repeat(last), last + 2);
        int[] wrong = {-1, last + 1, 299, 300, Integer.MIN_VALUE, Integer.MAX_VALUE};
        for (int i : wrong) {
            due.refusedLeaves("repeat " + i, Due.INDEX, Scenes::busy, x -> x.repeat(i));
        }
    }

    private static void threeHundred() {
        due.same("the 300th", Scenes.onWay(299).repeat(298), 300);
        int[] inside = {0, 150, 299};
        for (int i : inside) {
            due.refusedLeaves("repeat with 300", Due.STATE, () -> Scenes.onWay(300),
                x -> x.repeat(i));
        }
        int[] outside = {-1, 300};
        for (int i : outside) {
            due.refusedLeaves("repeat " + i + " with 300", Due.INDEX, () -> Scenes.onWay(300),
                x -> x.repeat(i));
        }
        CheapVotes x = Scenes.onWay(300);
        due.refused("repeat with 300", Due.STATE, () -> x.repeat(0));
        due.same("a refused one is not lost", x.lost(), 0);
        due.same("lose", x.lose(0), 299);
        due.same("room again", x.repeat(0), 300);
    }

    /** What a PROMISE tells cannot be seen on the way, but by what is PROPOSED then. */
    private static void tellsTheSame() {
        CheapVotes x = Due.led(2);
        x.submit(0, 5);
        x.lose(0);
        x.campaign(1);
        x.deliver(0);
        x.repeat(0);
        x.lose(0);
        x.deliver(0);
        due.onWay("told by the repeated one", x, Due.mail(1, 0, 3, 9, 0, 5));
    }

    /** From, to, kind, BALLOT, slot and command of both are the same, for every kind. */
    private static void sameInAll() {
        CheapVotes x = Scenes.known(2, 1);
        x.submit(0, 9);
        twice("ACCEPT", x, Due.mail(0, 1, 3, 8, 1, 9));
        twice("TAKEN", x, Due.mail(1, 0, 4, 8, 1, 0));
        twice("DECIDED", x, Due.mail(0, 1, 5, 0, 1, 9));
        twice("TOLD", x, Due.mail(1, 0, 6, 0, 2, 0));
        x.campaign(0);
        twice("PREPARE", x, Due.mail(0, 1, 1, 16, 2, 0));
        twice("PROMISE", x, Due.mail(1, 0, 2, 16, 0, 0));
        x.campaign(1);
        x.campaign(0);
        x.lose(1);
        x.deliver(0);
        twice("REFUSED", x, Due.mail(0, 1, 8, 24, 0, 0));
        CheapVotes y = Due.led(2);
        y.submit(0, 5);
        Due.ticks(y, 3);
        Due.deliverAll(y);
        y.tick();
        twice("FORGET", y, Due.mail(0, 2, 7, 0, 1, 0));
    }

    /** The only one on the way is repeated, its copy lost, and it comes. */
    private static void twice(String what, CheapVotes x, int[] row) {
        due.same(what, x.repeat(0), 2);
        due.onWay(what, x, row, row);
        x.lose(0);
        x.deliver(0);
    }
}
