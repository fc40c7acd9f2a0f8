/** Promise 1, a new object: mains 2 .. 5, else 3; nothing submitted. */
final class Promise1Test {
    private static final Due due = new Due();

    public static void main(String[] args) {
        int[][] sizes = {{2, 2}, {3, 3}, {4, 4}, {5, 5}, {1, 3}, {6, 3}, {0, 3}, {-1, 3}, {-2, 3},
            {Integer.MAX_VALUE, 3}, {Integer.MIN_VALUE, 3}};
        for (int[] size : sizes) {
            CheapVotes x = new CheapVotes(size[0]);
            nothingYet("new " + size[0], x, size[1]);
            lastOnes("new " + size[0], x, size[1]);
        }
        due.same("NONE", CheapVotes.NONE, -1);
        due.end("Promise1Test");
    }

    private static void nothingYet(String what, CheapVotes x, int mains) {
        due.same(what + " way", x.way(), 0);
        due.same(what + " lost", x.lost(), 0);
        for (int node = 0; node < 2 * mains - 1; node++) {
            for (int k = 0; k < 9; k++) {
                due.same(what + " about " + node + " " + k, x.about(node, k), 0);
            }
            for (int s = 0; s < 100; s++) {
                due.same(what + " accepted", x.accepted(node, s, 0), 0);
                due.same(what + " accepted", x.accepted(node, s, 1), 0);
            }
        }
        for (int node = 0; node < mains; node++) {
            int main = node;
            due.refused(what + " decided", Due.INDEX, () -> x.decided(main, 0));
            due.same(what + " members", x.members(node, 0), (1 << mains) - 1);
            due.same(what + " members", x.members(node, 3), (1 << mains) - 1);
        }
    }

    /** The last main is m - 1, the last spare 2 m - 2. */
    private static void lastOnes(String what, CheapVotes x, int mains) {
        due.refused(what + " submit", Due.INDEX, () -> x.submit(mains, 1));
        due.refused(what + " campaign", Due.INDEX, () -> x.campaign(mains));
        due.refused(what + " members", Due.INDEX, () -> x.members(mains, 0));
        due.refused(what + " about", Due.INDEX, () -> x.about(2 * mains - 1, 0));
        due.same(what + " crash", x.crash(2 * mains - 2, true), 0);
        due.same(what + " submit", x.submit(mains - 1, 1), 1);
        due.same(what + " campaign", x.campaign(mains - 1), 8 + mains - 1);
        due.same(what + " PREPAREs", x.way(), mains - 1);
    }
}
