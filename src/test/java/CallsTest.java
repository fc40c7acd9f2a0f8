/** Each call of the face by itself: ordinary answers, edges and wrong inputs. */
final class CallsTest {
    private static final Due due = new Due();

    public static void main(String[] args) {
        newObject();
        submit();
        submitRefuses();
        campaign();
        campaignRefuses();
        deliverAndLose();
        repeat();
        run();
        crash();
        messageFields();
        decided();
        about();
        accepted();
        members();
        lost();
        due.end("CallsTest");
    }

    /** Promise 1. */
    private static void newObject() {
        int[][] sizes = {{2, 2}, {3, 3}, {4, 4}, {5, 5}, {1, 3}, {6, 3}, {0, 3}, {-2, 3},
            {Integer.MAX_VALUE, 3}, {Integer.MIN_VALUE, 3}};
        for (int[] size : sizes) {
            CheapVotes x = new CheapVotes(size[0]);
            String what = "new " + size[0];
            int mains = size[1];
            due.same(what + " members", x.members(0, 0), (1 << mains) - 1);
            due.same(what + " way", x.way(), 0);
            due.same(what + " lost", x.lost(), 0);
            due.refused(what + " submit", Due.INDEX, () -> x.submit(mains, 1));
            due.refused(what + " about", Due.INDEX, () -> x.about(2 * mains - 1, 0));
            for (int node = 0; node < 2 * mains - 1; node++) {
                for (int k = 0; k < 9; k++) {
                    due.same(what + " about " + node + " " + k, x.about(node, k), 0);
                }
            }
        }
        due.same("NONE", CheapVotes.NONE, -1);
    }

    /** Promise 2. */
    private static void submit() {
        CheapVotes idle = new CheapVotes(3);
        for (int k = 1; k <= 20; k++) {
            due.same("submit waits", idle.submit(1, k), k);
        }
        due.refused("submit over 20", Due.STATE, () -> idle.submit(1, 21));
        due.same("20 wait", idle.about(1, 6), 20);
        due.same("not elsewhere", idle.about(0, 6), 0);
        due.same("way", idle.way(), 0);

        CheapVotes x = Due.led(2);
        int[] waits = {0, 0, 0, 0, 1, 2};
        for (int k = 0; k < waits.length; k++) {
            due.same("submit at a leader", x.submit(0, 11 + k), waits[k]);
        }
        due.onWay("four ACCEPTs", x, Due.mail(0, 1, 3, 8, 0, 11), Due.mail(0, 1, 3, 8, 1, 12),
            Due.mail(0, 1, 3, 8, 2, 13), Due.mail(0, 1, 3, 8, 3, 14));
        due.same("largest command", Due.led(2).submit(0, Integer.MAX_VALUE), 0);
    }

    private static void submitRefuses() {
        CheapVotes x = new CheapVotes(3);
        int[] nodes = {-1, 3, 4, 5, Integer.MIN_VALUE, Integer.MAX_VALUE};
        for (int node : nodes) {
            due.refused("submit at " + node, Due.INDEX, () -> x.submit(node, 0));
        }
        int[] commands = {0, -1, -3, Integer.MIN_VALUE};
        x.crash(2, true);
        for (int c : commands) {
            due.refused("submit " + c, Due.ARGUMENT, () -> x.submit(2, c));
        }
        due.refused("submit at a crashed one", Due.STATE, () -> x.submit(2, 1));
        due.same("nothing waits", x.about(2, 6), 0);
    }

    /** Promise 3. */
    private static void campaign() {
        CheapVotes x = new CheapVotes(3);
        due.same("first", x.campaign(1), 9);
        due.onWay("PREPAREs", x, Due.mail(1, 0, 1, 9, 0, 0), Due.mail(1, 2, 1, 9, 0, 0));
        due.same("role", x.about(1, 1), 1);
        due.same("ballot", x.about(1, 2), 9);
        due.same("its own came", x.about(1, 8), 2);
        due.same("above its own", x.campaign(1), 17);
        due.same("knows nothing of others", x.campaign(0), 8);
        Due.loseAll(x);
        x.campaign(1);
        x.deliver(1);
        due.same("main 2 above 25", x.campaign(2), 26);
        Due.loseAll(x);
        x.campaign(2);
        x.deliver(0);
        due.same("main 0 above 34", x.campaign(0), 40);
    }

    private static void campaignRefuses() {
        CheapVotes x = new CheapVotes(2);
        int[] nodes = {-1, 2, 3, Integer.MAX_VALUE};
        for (int node : nodes) {
            due.refused("campaign of " + node, Due.INDEX, () -> x.campaign(node));
        }
        x.crash(1, true);
        due.refused("campaign of a crashed one", Due.STATE, () -> x.campaign(1));
        due.same("nothing went", x.way(), 0);

        CheapVotes out = withoutMain(2);
        due.same("KNOWN of the one that went", out.about(2, 0), 5);
        due.refused("campaign of no MEMBER", Due.STATE, () -> out.campaign(2));

        CheapVotes full = Due.led(2);
        for (int k = 1; k <= 100; k++) {
            full.submit(0, k);
            Due.deliverAll(full);
        }
        due.same("KNOWN", full.about(0, 0), 100);
        due.same("last", full.decided(1, 99), 100);
        due.refused("campaign with all known", Due.STATE, () -> full.campaign(0));
        due.refused("campaign with all known", Due.STATE, () -> full.campaign(1));
        due.same("waits for ever", full.submit(0, 101), 1);
        due.same("members behind all", full.members(0, 103), 3);
        due.refused("members", Due.INDEX, () -> full.members(0, 104));
    }

    /** Three mains; 2 was crashed, was taken out by slot 1, and knows it. */
    private static CheapVotes withoutMain(int gone) {
        CheapVotes x = Due.led(3);
        x.crash(gone, true);
        x.submit(0, 7);
        x.run(40);
        x.crash(gone, false);
        Due.loseAll(x);
        x.campaign(gone);
        while (x.about(gone, 0) < x.about(0, 0)) {
            x.deliver(0);
        }
        return x;
    }

    /** Promises 4, 5 and 10. */
    private static void deliverAndLose() {
        CheapVotes x = new CheapVotes(4);
        due.refused("deliver", Due.INDEX, () -> x.deliver(0));
        due.refused("lose", Due.INDEX, () -> x.lose(0));
        x.campaign(0);
        due.same("way", x.way(), 3);
        int[] wrong = {-1, 3, Integer.MIN_VALUE, Integer.MAX_VALUE};
        for (int i : wrong) {
            due.refused("deliver " + i, Due.INDEX, () -> x.deliver(i));
            due.refused("lose " + i, Due.INDEX, () -> x.lose(i));
        }
        due.same("lose the middle one", x.lose(1), 2);
        due.onWay("left", x, Due.mail(0, 1, 1, 8, 0, 0), Due.mail(0, 3, 1, 8, 0, 0));
        due.same("deliver the last", x.deliver(1), 1);
        due.onWay("promised", x, Due.mail(0, 1, 1, 8, 0, 0), Due.mail(3, 0, 2, 8, 0, 0));
        x.crash(1, true);
        due.same("to a crashed one", x.deliver(0), 1);
        due.same("it did not come", x.about(1, 8), 0);
        due.same("nor is PROMISED", x.about(1, 3), 0);
        due.same("deliver a PROMISE", x.deliver(0), 2);
        due.same("way", x.way(), 0);
        due.same("lose is not lost()", x.lost(), 0);
    }

    /** Promise 6. */
    private static void repeat() {
        CheapVotes x = new CheapVotes(3);
        due.refused("repeat", Due.INDEX, () -> x.repeat(0));
        x.campaign(0);
        due.refused("repeat -1", Due.INDEX, () -> x.repeat(-1));
        due.refused("repeat 2", Due.INDEX, () -> x.repeat(2));
        due.same("repeat", x.repeat(0), 3);
        due.onWay("again", x, Due.mail(0, 1, 1, 8, 0, 0), Due.mail(0, 2, 1, 8, 0, 0),
            Due.mail(0, 1, 1, 8, 0, 0));
        for (int k = 4; k <= 300; k++) {
            due.same("repeat", x.repeat(1), k);
        }
        due.refused("repeat with 300", Due.STATE, () -> x.repeat(0));
        due.refused("repeat 300 with 300", Due.INDEX, () -> x.repeat(300));
        due.same("way", x.way(), 300);
        due.same("a refused one is not lost", x.lost(), 0);

        // A PROMISE that comes twice tells the same.
        CheapVotes y = Due.led(2);
        y.submit(0, 5);
        y.lose(0);
        y.campaign(1);
        y.deliver(0);
        y.repeat(0);
        y.lose(0);
        y.deliver(0);
        due.onWay("told by the repeated one", y, Due.mail(1, 0, 3, 9, 0, 5));
    }

    /** Promise 8. */
    private static void run() {
        CheapVotes x = new CheapVotes(3);
        int[] wrong = {0, -1, 51, Integer.MIN_VALUE, Integer.MAX_VALUE};
        for (int n : wrong) {
            due.refused("run " + n, Due.ARGUMENT, () -> x.run(n));
        }
        due.same("run 50", x.run(50), 0);
        x.campaign(0);
        due.same("only what was there at first", x.run(1), 2);
        due.onWay("PROMISEs", x, Due.mail(1, 0, 2, 8, 0, 0), Due.mail(2, 0, 2, 8, 0, 0));
        due.same("still PREPARING", x.about(0, 1), 1);
        due.same("run 1", x.run(1), 0);
        due.same("LEADING", x.about(0, 1), 2);

        CheapVotes twice = Due.led(3);
        twice.submit(0, 1);
        CheapVotes once = Due.led(3);
        once.submit(0, 1);
        twice.run(2);
        once.run(1);
        once.run(1);
        due.same("2 rounds", twice.way(), once.way());
        due.same("came", twice.about(0, 8), once.about(0, 8));
    }

    /** Promise 9. */
    private static void crash() {
        CheapVotes x = Due.led(3);
        int[] wrong = {-1, 5, Integer.MIN_VALUE, Integer.MAX_VALUE};
        for (int node : wrong) {
            due.refused("crash " + node, Due.INDEX, () -> x.crash(node, true));
            due.refused("back " + node, Due.INDEX, () -> x.crash(node, false));
        }
        x.submit(0, 5);
        Due.deliverAll(x);
        x.campaign(0);
        Due.loseAll(x);
        x.submit(0, 6);
        due.same("crash", x.crash(0, true), 0);
        due.same("crash again", x.crash(0, true), 1);
        due.same("ROLE", x.about(0, 1), 0);
        due.same("BALLOT", x.about(0, 2), 0);
        due.same("back", x.crash(0, false), 1);
        due.same("back again", x.crash(0, false), 0);
        due.same("ROLE", x.about(0, 1), 0);
        int[] kept = {1, 0, 0, 16, 0, 1, 1, 1};
        for (int k = 0; k < kept.length; k++) {
            due.same("kept " + k, x.about(0, k), kept[k]);
        }
        due.same("LOG", x.decided(0, 0), 5);
        due.same("ACCEPTED", x.accepted(0, 0, 0), 8);
        due.same("above what it PROMISED", x.campaign(0), 24);
        due.same("a spare", x.crash(4, true), 0);
        due.same("a spare", x.crash(4, false), 1);
        // One that is there, and is told to be there again: its ROLE is 0.
        due.same("was not crashed", x.crash(0, false), 0);
        due.same("ROLE", x.about(0, 1), 0);
    }

    /** Promise 11: every kind, and what it has not. */
    private static void messageFields() {
        CheapVotes x = Due.led(2);
        x.submit(0, 5);
        due.onWay("ACCEPT", x, Due.mail(0, 1, 3, 8, 0, 5));
        int[] wrong = {-1, 6, Integer.MIN_VALUE, Integer.MAX_VALUE};
        for (int what : wrong) {
            due.refused("message(0, " + what + ")", Due.INDEX, () -> x.message(0, what));
        }
        due.refused("message(1, 0)", Due.INDEX, () -> x.message(1, 0));
        due.refused("message(-1, 0)", Due.INDEX, () -> x.message(-1, 0));
        due.same("deliver", x.deliver(0), 3);
        due.onWay("TAKEN", x, Due.mail(1, 0, 4, 8, 0, 0));
        due.same("deliver", x.deliver(0), 4);
        due.onWay("DECIDED", x, Due.mail(0, 1, 5, 0, 0, 5));
        due.same("deliver", x.deliver(0), 5);
        due.onWay("TOLD", x, Due.mail(1, 0, 6, 0, 1, 0));
        due.same("deliver", x.deliver(0), 6);
        x.campaign(0);
        due.onWay("PREPARE with KNOWN", x, Due.mail(0, 1, 1, 16, 1, 0));
        due.same("deliver", x.deliver(0), 1);
        due.onWay("PROMISE", x, Due.mail(1, 0, 2, 16, 0, 0));
        due.same("deliver", x.deliver(0), 2);
        due.same("campaign", x.campaign(1), 17);
        due.same("campaign", x.campaign(0), 24);
        due.same("deliver", x.deliver(0), 1);
        due.onWay("REFUSED", x, Due.mail(0, 1, 1, 24, 1, 0), Due.mail(0, 1, 8, 24, 0, 0));
        due.same("deliver", x.deliver(1), 8);
    }

    /** Promise 12. */
    private static void decided() {
        CheapVotes x = Due.led(3);
        due.refused("not yet", Due.INDEX, () -> x.decided(0, 0));
        x.submit(0, 5);
        x.submit(0, 6);
        Due.deliverAll(x);
        for (int node = 0; node < 3; node++) {
            due.same("slot 0", x.decided(node, 0), 5);
            due.same("slot 1", x.decided(node, 1), 6);
        }
        int[] slots = {2, 99, 100, -1, Integer.MIN_VALUE, Integer.MAX_VALUE};
        for (int slot : slots) {
            due.refused("decided(0, " + slot + ")", Due.INDEX, () -> x.decided(0, slot));
        }
        int[] nodes = {-1, 3, 4, 5, Integer.MAX_VALUE};
        for (int node : nodes) {
            due.refused("decided(" + node + ", 0)", Due.INDEX, () -> x.decided(node, 0));
        }
    }

    /** Promise 13. */
    private static void about() {
        CheapVotes x = Due.led(2);
        x.submit(0, 5);
        x.submit(0, 6);
        // The TAKEN of slot 1 comes alone, so that the LOG has a gap.
        x.deliver(1);
        x.deliver(1);
        int[] leader = {0, 2, 8, 8, 0, 2, 0, 1, 8};
        int[] other = {0, 0, 0, 8, 0, 1, 0, 0, 2};
        for (int k = 0; k < 9; k++) {
            due.same("about(0, " + k + ")", x.about(0, k), leader[k]);
            due.same("about(1, " + k + ")", x.about(1, k), other[k]);
            due.same("about(2, " + k + ")", x.about(2, k), 0);
        }
        Due.deliverAll(x);
        due.same("KNOWN without the gap", x.about(0, 0), 2);
        int[] wrong = {-1, 9, Integer.MIN_VALUE, Integer.MAX_VALUE};
        for (int w : wrong) {
            due.refused("about(0, " + w + ")", Due.INDEX, () -> x.about(0, w));
        }
        int[] nodes = {-1, 3, Integer.MIN_VALUE, Integer.MAX_VALUE};
        for (int node : nodes) {
            due.refused("about(" + node + ", 0)", Due.INDEX, () -> x.about(node, 0));
        }
    }

    /** Promise 14. */
    private static void accepted() {
        CheapVotes x = Due.led(2);
        x.submit(0, 5);
        due.same("its own", x.accepted(0, 0, 0), 8);
        due.same("its own", x.accepted(0, 0, 1), 5);
        due.same("none", x.accepted(1, 0, 0), 0);
        due.same("none", x.accepted(1, 0, 1), 0);
        due.same("a spare", x.accepted(2, 99, 0), 0);
        int[][] wrong = {{-1, 0, 0}, {3, 0, 0}, {0, -1, 0}, {0, 100, 0}, {0, 0, -1}, {0, 0, 2},
            {Integer.MAX_VALUE, 0, 0}, {0, Integer.MIN_VALUE, 0}, {0, 0, Integer.MAX_VALUE}};
        for (int[] w : wrong) {
            due.refused("accepted" + java.util.Arrays.toString(w), Due.INDEX,
                () -> x.accepted(w[0], w[1], w[2]));
        }
    }

    /** Promise 15. */
    private static void members() {
        CheapVotes x = Due.led(5);
        for (int slot = 0; slot < 4; slot++) {
            due.same("members", x.members(4, slot), 31);
        }
        int[] slots = {-1, 4, 100, Integer.MIN_VALUE, Integer.MAX_VALUE};
        for (int slot : slots) {
            due.refused("members(0, " + slot + ")", Due.INDEX, () -> x.members(0, slot));
        }
        int[] nodes = {-1, 5, 8, Integer.MAX_VALUE};
        for (int node : nodes) {
            due.refused("members(" + node + ", 0)", Due.INDEX, () -> x.members(node, 0));
        }
        CheapVotes y = withoutMain(2);
        due.same("slot of the command", y.decided(0, 1), -3);
        for (int slot = 0; slot <= 8; slot++) {
            due.same("members for " + slot, y.members(0, slot), slot < 5 ? 7 : 3);
            due.same("as main 2 knows them", y.members(2, slot), slot < 5 ? 7 : 3);
        }
        due.refused("members(0, 9)", Due.INDEX, () -> y.members(0, 9));
    }

    /** Promise 16. */
    private static void lost() {
        CheapVotes x = new CheapVotes(5);
        x.campaign(0);
        for (int k = x.way(); k < 300; k++) {
            x.repeat(0);
        }
        due.same("none yet", x.lost(), 0);
        due.same("still PREPARE", x.campaign(0), 16);
        due.same("four PREPAREs lost", x.lost(), 4);
        due.same("way", x.way(), 300);
        due.same("what went to itself is not lost", x.about(0, 3), 16);
        x.lose(0);
        x.campaign(0);
        due.same("the first found room", x.message(299, 1), 1);
        due.same("the first found room", x.message(299, 3), 24);
        due.same("three more", x.lost(), 7);
        // The message that comes leaves room for one answer.
        due.same("deliver", x.deliver(299), 1);
        due.same("the PROMISE", x.message(299, 2), 2);
        due.same("no more", x.lost(), 7);
    }
}
