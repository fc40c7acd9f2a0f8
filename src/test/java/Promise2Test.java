/** Promise 2, submit: a command below 1, 20 that wait, a crashed main, a node that is no main. */
final class Promise2Test {
    private static final Due due = new Due();

    public static void main(String[] args) {
        answersHowManyWait();
        noSuchMain();
        commandBelowOne();
        twentyWait();
        twentyWaitBehindAFullWindow();
        moreThanTwentyWait();
        twentyWaitBehindTheLastSlot();
        crashed();
        firstThingWrongIsTold();
        due.end("Promise2Test");
    }

    private static void answersHowManyWait() {
        CheapVotes idle = Scenes.waiting(3);
        due.same("waits", idle.submit(1, 9), 4);
        due.same("not elsewhere", idle.about(0, 6), 0);
        due.same("way", idle.way(), 0);
        CheapVotes x = Due.led(2);
        int[] waits = {0, 0, 0, 0, 1, 2};
        for (int k = 0; k < waits.length; k++) {
            due.same("submit at a leader", x.submit(0, 11 + k), waits[k]);
        }
        due.onWay("four ACCEPTs", x, Due.mail(0, 1, 3, 8, 0, 11), Due.mail(0, 1, 3, 8, 1, 12),
            Due.mail(0, 1, 3, 8, 2, 13), Due.mail(0, 1, 3, 8, 3, 14));
    }

    private static void noSuchMain() {
        for (int mains = 2; mains <= 5; mains++) {
            due.same("the first main", new CheapVotes(mains).submit(0, 1), 1);
            due.same("the last main", new CheapVotes(mains).submit(mains - 1, 1), 1);
        }
        int[] nodes = {-1, 3, 4, 5, Integer.MIN_VALUE, Integer.MAX_VALUE};
        for (int node : nodes) {
            due.refusedLeaves("submit at " + node, Due.INDEX, Scenes::busy, x -> x.submit(node, 1));
        }
    }

    private static void commandBelowOne() {
        due.same("1", Due.led(2).submit(0, 1), 0);
        CheapVotes x = Due.led(2);
        due.same("the largest", x.submit(0, Integer.MAX_VALUE), 0);
        due.onWay("the largest", x, Due.mail(0, 1, 3, 8, 0, Integer.MAX_VALUE));
        int[] commands = {0, -1, -3, -1000, Integer.MIN_VALUE};
        for (int c : commands) {
            due.refusedLeaves("submit " + c, Due.ARGUMENT, Scenes::busy, y -> y.submit(0, c));
        }
    }

    private static void twentyWait() {
        due.same("the 20th", Scenes.waiting(19).submit(1, 20), 20);
        due.refusedLeaves("the 21st", Due.STATE, () -> Scenes.waiting(20), x -> x.submit(1, 21));
        due.same("elsewhere none waits", Scenes.waiting(20).submit(0, 21), 1);
        CheapVotes kept = Scenes.waiting(20);
        kept.crash(1, true);
        kept.crash(1, false);
        due.refused("they wait behind a crash, too", Due.STATE, () -> kept.submit(1, 21));
    }

    private static CheapVotes fullWindow(int n) {
        CheapVotes x = Due.led(2);
        for (int k = 1; k <= n; k++) {
            x.submit(0, k);
        }
        return x;
    }

    /** Four are PROPOSED and do not wait. */
    private static void twentyWaitBehindAFullWindow() {
        due.same("the 24th", fullWindow(23).submit(0, 24), 20);
        due.refusedLeaves("the 25th", Due.STATE, () -> fullWindow(24), x -> x.submit(0, 25));
        CheapVotes x = fullWindow(24);
        x.deliver(0);
        Due.deliverTo(x, 0, 4);
        due.same("slot 0 is decided, so one waits no more", x.about(0, 6), 19);
        due.same("submit", x.submit(0, 25), 20);
    }

    /** At the 4th tick two mains wait to go, before the 20. */
    private static CheapVotes twentyTwoWait() {
        CheapVotes x = Due.led(3);
        for (int k = 1; k <= 24; k++) {
            x.submit(0, k);
        }
        Due.ticks(x, 4);
        Due.loseAll(x);
        return x;
    }

    private static void moreThanTwentyWait() {
        due.same("22 wait", twentyTwoWait().about(0, 6), 22);
        due.refusedLeaves("with 22", Due.STATE, () -> twentyTwoWait(), x -> x.submit(0, 99));
        CheapVotes x = twentyTwoWait();
        Due.ticks(x, 2);
        Due.deliverAll(x);
        for (int s = 0; s < 26; s++) {
            int c = s < 4 ? s + 1 : s == 4 ? -2 : s == 5 ? -3 : s - 1;
            due.same("none is gone, slot " + s, x.decided(0, s), c);
        }
    }

    private static void twentyWaitBehindTheLastSlot() {
        CheapVotes x = Scenes.known(2, 100);
        for (int k = 1; k <= 20; k++) {
            due.same("no slot is left", x.submit(0, k), k);
        }
        due.refused("the 21st", Due.STATE, () -> x.submit(0, 21));
        due.same("way", x.way(), 0);
    }

    private static void crashed() {
        due.refusedLeaves("at a crashed one", Due.STATE, Scenes::busy, x -> x.submit(2, 1));
        CheapVotes x = Scenes.busy();
        x.crash(2, false);
        due.same("there again", x.submit(2, 1), 1);
    }

    private static void firstThingWrongIsTold() {
        due.refusedLeaves("main, command", Due.INDEX, Scenes::busy, x -> x.submit(3, 0));
        due.refusedLeaves("command, crashed", Due.ARGUMENT, Scenes::busy, x -> x.submit(2, 0));
        due.refusedLeaves("command, 20", Due.ARGUMENT, () -> Scenes.waiting(20),
            x -> x.submit(1, 0));
    }
}
