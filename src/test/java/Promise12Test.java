/** Promise 12, decided: no such main, and a slot that a main does not know. */
final class Promise12Test {
    private static final Due due = new Due();

    public static void main(String[] args) {
        noSuchMain();
        slotThatItDoesNotKnow();
        eachMainItsOwn();
        behindAGap();
        lastSlot();
        nothingIsACommand();
        due.end("Promise12Test");
    }

    private static void noSuchMain() {
        CheapVotes x = Scenes.known(3, 2);
        for (int node = 0; node < 3; node++) {
            due.same("slot 0", x.decided(node, 0), 1);
            due.same("slot 1", x.decided(node, 1), 2);
        }
        int[] nodes = {-1, 3, 4, 5, Integer.MIN_VALUE, Integer.MAX_VALUE};
        for (int node : nodes) {
            due.refusedLeaves("decided at " + node, Due.INDEX, () -> Scenes.known(3, 2),
                y -> y.decided(node, 0));
        }
    }

    private static void slotThatItDoesNotKnow() {
        due.refused("none yet", Due.INDEX, () -> Due.led(3).decided(0, 0));
        int[] slots = {2, 3, 99, 100, 101, -1, Integer.MIN_VALUE, Integer.MAX_VALUE};
        for (int slot : slots) {
            due.refusedLeaves("decided " + slot, Due.INDEX, () -> Scenes.known(3, 2),
                x -> x.decided(0, slot));
        }
        CheapVotes x = Due.led(2);
        x.submit(0, 5);
        x.deliver(0);
        due.refused("PROPOSED and ACCEPTED is not decided", Due.INDEX, () -> x.decided(0, 0));
        x.deliver(0);
        due.same("main 0 knows", x.decided(0, 0), 5);
        due.refused("main 1 does not yet", Due.INDEX, () -> x.decided(1, 0));
        x.deliver(0);
        due.same("now it does", x.decided(1, 0), 5);
    }

    private static void behindAGap() {
        CheapVotes x = Due.led(2);
        x.submit(0, 5);
        x.submit(0, 6);
        x.deliver(1);
        x.deliver(1);
        due.same("KNOWN", x.about(0, 0), 0);
        due.refused("the gap", Due.INDEX, () -> x.decided(0, 0));
        due.same("behind it", x.decided(0, 1), 6);
    }

    private static void lastSlot() {
        CheapVotes x = Scenes.known(2, 100);
        due.same("slot 99", x.decided(0, 99), 100);
        due.same("slot 99", x.decided(1, 99), 100);
        due.refused("slot 100", Due.INDEX, () -> x.decided(0, 100));
        due.refused("slot 99", Due.INDEX, () -> Scenes.known(2, 99).decided(0, 99));
    }

    /** 0 and those that take mains out are commands of the row, too. */
    private static void nothingIsACommand() {
        CheapVotes x = Scenes.mainTwoGoes(3);
        int[] row = {7, -3, 0, 0, 0};
        for (int s = 0; s < row.length; s++) {
            due.same("slot " + s, x.decided(0, s), row[s]);
        }
        due.same("slot 2 at main 2", x.decided(2, 2), 0);
        due.refused("slot 3 at main 2", Due.INDEX, () -> x.decided(2, 3));
    }

    private static void eachMainItsOwn() {
        for (int main = 0; main < 2; main++) {
            int other = 1 - main;
            CheapVotes x = new CheapVotes(2);
            x.campaign(main);
            Due.deliverAll(x);
            x.submit(main, 5);
            x.deliver(0);
            x.deliver(0);
            due.same("main " + main + " knows", x.decided(main, 0), 5);
            due.refused("main " + other + " does not", Due.INDEX, () -> x.decided(other, 0));
        }
    }
}
