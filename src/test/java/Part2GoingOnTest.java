/** Part 2, MESSAGES: what a main that is LEADING PROPOSES by GOING ON. */
final class Part2GoingOnTest {
    private static final Due due = new Due();

    public static void main(String[] args) {
        toldIsTakenOver();
        greatestBallotWins();
        greatestBallotOfAnyNode();
        decidedBallotWins();
        decidedIsAboveAllBallots();
        logTellsWhatWasNotAccepted();
        logBehindAGapIsTold();
        gapGetsNothing();
        windowOfFour();
        aloneItDecidesAtOnce();
        severalSlotsAtOnce();
        lowNotAboveTheSlot();
        acceptToMembersForItsSlot();
        wantedPromisesHoldBack();
        due.end("Part2GoingOnTest");
    }

    private static void toldIsTakenOver() {
        CheapVotes x = Due.led(3);
        x.submit(0, 5);
        x.deliver(0);
        Due.loseAll(x);
        x.submit(1, 9);
        x.campaign(1);
        Due.deliverTo(x, 2, 1);
        Due.deliverTo(x, 1, 2);
        Due.loseAll(x);
        x.crash(0, true);
        x.tick();
        x.tick();
        x.tick();
        Due.deliverTo(x, 3, 1);
        Due.deliverTo(x, 1, 2);
        due.same("LEADING", x.about(1, 1), 2);
        due.same("what main 1 itself ACCEPTED", x.accepted(1, 0, 1), 5);
        due.same("with its own BALLOT", x.accepted(1, 0, 0), 9);
        due.same("then what waits", x.accepted(1, 1, 1), 9);
        due.same("nothing waits", x.about(1, 6), 0);
    }

    private static void greatestBallotWins() {
        CheapVotes x = Due.led(3);
        x.submit(0, 5);
        // Only main 0 has 5 with 8; main 1 leads with 9 by spares, and only it has 6.
        Due.loseAll(x);
        x.crash(0, true);
        x.campaign(1);
        x.run(3);
        Due.deliverTo(x, 3, 1);
        Due.deliverTo(x, 4, 1);
        Due.deliverTo(x, 1, 2);
        Due.deliverTo(x, 1, 2);
        Due.loseAll(x);
        due.same("LEADING", x.about(1, 1), 2);
        x.submit(1, 6);
        Due.loseAll(x);
        due.same("6 with 9", x.accepted(1, 0, 0), 9);
        x.crash(0, false);
        due.same("main 2", x.campaign(2), 10);
        Due.deliverTo(x, 0, 1);
        Due.deliverTo(x, 1, 1);
        Due.deliverAll(x);
        for (int i = 0; i < 3; i++) {
            due.same("decided at " + i, x.decided(i, 0), 6);
        }
    }

    private static void campaignWith(CheapVotes x, int main, int r) {
        while (x.campaign(main) / 8 < r) {
            Due.loseAll(x);
        }
    }

    /** Lets a main lead by spares, while another one is crashed, and PROPOSE without an echo. */
    private static void proposeAlone(CheapVotes x, int main, int crashed, int r) {
        x.crash(crashed, true);
        campaignWith(x, main, r);
        Due.deliverAll(x);
        Due.ticks(x, 3);
        Due.deliverAll(x);
        x.submit(main, r);
        Due.loseAll(x);
        x.crash(main, true);
        x.crash(main, false);
        x.crash(crashed, false);
    }

    private static void greatestBallotOfAnyNode() {
        int[][] orders = {{0, 1, 2}, {1, 0, 2}, {1, 2, 0}, {2, 1, 0}, {0, 2, 1}, {2, 0, 1}};
        for (int[] order : orders) {
            CheapVotes x = new CheapVotes(3);
            proposeAlone(x, order[0], order[1], 5);
            proposeAlone(x, order[1], order[0], 7);
            String what = order[0] + ", then " + order[1];
            due.same(what, x.accepted(order[0], 0, 1), 5);
            due.same(what, x.accepted(order[1], 0, 1), 7);
            campaignWith(x, order[2], 9);
            Due.deliverAll(x);
            due.same(what + ": the later one wins", x.decided(order[2], 0), 7);
        }
    }

    private static void decidedBallotWins() {
        CheapVotes x = Due.led(2);
        x.submit(0, 5);
        x.deliver(0);
        x.deliver(0);
        // Main 0 knows 5; its DECIDED is lost twice, and its PROMISE tells it.
        Due.loseAll(x);
        x.campaign(1);
        x.deliver(0);
        due.same("DECIDED", x.message(0, 2), 5);
        x.lose(0);
        x.deliver(0);
        due.onWay("proposed anew", x, Due.mail(1, 0, 3, 9, 0, 5));
        Due.deliverAll(x);
        due.same("main 1", x.decided(1, 0), 5);
    }

    /** Main 0 still has 5 with 8; the others know 6, and their PROMISEs alone tell it. */
    private static void decidedIsAboveAllBallots() {
        CheapVotes x = Due.led(3);
        x.submit(0, 5);
        Due.loseAll(x);
        x.crash(0, true);
        x.campaign(1);
        Due.deliverAll(x);
        Due.ticks(x, 3);
        Due.deliverAll(x);
        x.submit(1, 6);
        Due.ticks(x, 3);
        Due.deliverAll(x);
        due.same("decided", x.decided(2, 0), 6);
        x.crash(0, false);
        due.same("campaign", x.campaign(0), 16);
        x.deliver(0);
        x.deliver(0);
        due.same("DECIDED", x.message(0, 2), 5);
        due.same("DECIDED", x.message(2, 2), 5);
        x.lose(2);
        x.lose(0);
        x.deliver(0);
        x.deliver(0);
        due.onWay("6 anew", x, Due.mail(0, 1, 3, 16, 0, 6), Due.mail(0, 2, 3, 16, 0, 6));
    }

    /** Main 2 only heard that 6 is decided, with a BALLOT above the one that it promises. */
    private static void logTellsWhatWasNotAccepted() {
        CheapVotes x = new CheapVotes(3);
        x.crash(2, true);
        x.campaign(0);
        Due.loseAll(x);
        Due.ticks(x, 3);
        due.deliverFrom(x, 0, 3, 1);
        due.deliverFrom(x, 3, 0, 2);
        Due.loseAll(x);
        x.campaign(1);
        Due.ticks(x, 3);
        for (int spare = 3; spare <= 4; spare++) {
            due.deliverFrom(x, 1, spare, 1);
            due.deliverFrom(x, spare, 1, 2);
        }
        due.same("LEADING with 9", x.about(1, 1), 2);
        x.submit(1, 6);
        Due.loseAll(x);
        Due.ticks(x, 3);
        for (int spare = 3; spare <= 4; spare++) {
            due.deliverFrom(x, 1, spare, 3);
            due.deliverFrom(x, spare, 1, 4);
        }
        due.same("decided", x.decided(1, 0), 6);
        x.crash(2, false);
        due.deliverFrom(x, 1, 2, 5);
        Due.loseAll(x);
        due.same("main 2 knows", x.decided(2, 0), 6);
        due.same("and ACCEPTED nothing", x.about(2, 5), 0);
        due.same("waits", x.submit(0, 5), 1);
        Due.ticks(x, 3);
        due.deliverFrom(x, 0, 2, 1);
        due.deliverFrom(x, 2, 0, 2);
        due.same("LEADING with 8", x.about(0, 1), 2);
        due.same("knows nothing", x.about(0, 7), 0);
        due.same("6 for slot 0", x.accepted(0, 0, 1), 6);
        due.same("5 for slot 1", x.accepted(0, 1, 1), 5);
    }

    private static void gapGetsNothing() {
        CheapVotes x = Due.led(2);
        x.submit(0, 5);
        x.submit(0, 6);
        // Main 1 has slot 1 alone, and leads with the spare.
        x.deliver(1);
        Due.loseAll(x);
        x.crash(0, true);
        x.submit(1, 8);
        x.campaign(1);
        x.run(3);
        Due.deliverTo(x, 2, 1);
        Due.deliverTo(x, 1, 2);
        due.same("LEADING", x.about(1, 1), 2);
        int[] commands = {0, 6, 8, 0};
        int[] ballots = {9, 9, 9, 0};
        for (int s = 0; s < 4; s++) {
            due.same("slot " + s, x.accepted(1, s, 1), commands[s]);
            due.same("slot " + s, x.accepted(1, s, 0), ballots[s]);
        }
    }

    private static void windowOfFour() {
        CheapVotes x = Due.led(2);
        for (int k = 1; k <= 6; k++) {
            x.submit(0, k);
        }
        due.same("four are on the way", x.way(), 4);
        // Slot 3 is decided first: KNOWN stays, so nothing is PROPOSED.
        x.deliver(3);
        x.deliver(3);
        due.same("two wait", x.about(0, 6), 2);
        x.deliver(0);
        Due.deliverTo(x, 0, 4);
        due.same("KNOWN", x.about(0, 0), 1);
        due.same("one waits", x.about(0, 6), 1);
        due.same("slot 4", x.accepted(0, 4, 1), 5);
        int last = x.way() - 1;
        due.same("ACCEPT behind DECIDED", x.message(last, 2), 3);
        due.same("DECIDED", x.message(last - 1, 2), 5);
    }

    /** The last MEMBER is a QUORUM by itself: ACCEPT and TAKEN go to itself. */
    private static void aloneItDecidesAtOnce() {
        CheapVotes x = Scenes.mainOneIsOut();
        due.same("main 1 is out", x.members(0, x.about(0, 0)), 1);
        int known = x.about(0, 0);
        int came = x.about(0, 8);
        due.same("submit", x.submit(0, 9), 0);
        due.same("decided at once", x.decided(0, known), 9);
        due.same("ACCEPT and TAKEN", x.about(0, 8), came + 2);
        due.onWay("all other mains hear of it", x, Due.mail(0, 1, 5, 0, known, 9));

        // All that waits is decided by one campaign, over several windows.
        Due.loseAll(x);
        x.crash(0, true);
        x.crash(0, false);
        for (int k = 0; k < 20; k++) {
            due.same("waits", x.submit(0, 100 + k), k + 1);
        }
        due.same("campaign", x.campaign(0), 16);
        due.same("KNOWN", x.about(0, 0), known + 21);
        due.same("nothing waits", x.about(0, 6), 0);
        due.same("the last", x.decided(0, known + 20), 119);
        due.same("DECIDED", x.way(), 20);
        for (int i = 0; i < 20; i++) {
            due.same("its own come in order", x.message(i, 4), known + 1 + i);
            due.same("its own come in order", x.message(i, 5), 100 + i);
        }
    }

    /** Slot 5 is without main 1, and 0 and 3 alone promised for it: what is submitted waits. */
    private static void wantedPromisesHoldBack() {
        CheapVotes x = new CheapVotes(3);
        x.crash(2, true);
        x.campaign(0);
        x.run(3);
        x.lose(2);
        x.run(2);
        x.crash(1, true);
        x.crash(2, false);
        x.submit(0, 7);
        for (int k = 0; k < 60 && x.about(0, 5) < 5; k++) {
            x.run(1);
        }
        due.same("KNOWN", x.about(0, 0), 4);
        due.same("slot 4 is PROPOSED", x.accepted(0, 4, 0), 8);
        due.same("MEMBERS for 5", x.members(0, 5), 5);
        due.same("waits", x.submit(0, 8), 1);
        due.same("not PROPOSED", x.accepted(0, 5, 0), 0);
        x.run(12);
        due.same("does not wait any more", x.about(0, 6), 0);
        due.same("slot 5", x.decided(0, 5), 8);
    }

    /** Main 2 ACCEPTED nothing, and its LOG has slots 0 and 2: its PROMISE alone tells them. */
    private static void logBehindAGapIsTold() {
        CheapVotes x = new CheapVotes(3);
        x.crash(2, true);
        x.campaign(0);
        Due.ticks(x, 3);
        due.deliverFrom(x, 0, 3, 1);
        due.deliverFrom(x, 3, 0, 2);
        Due.loseAll(x);
        x.campaign(1);
        Due.ticks(x, 3);
        for (int spare = 3; spare <= 4; spare++) {
            due.deliverFrom(x, 1, spare, 1);
            due.deliverFrom(x, spare, 1, 2);
        }
        for (int c = 6; c <= 8; c++) {
            x.submit(1, c);
        }
        Due.ticks(x, 3);
        for (int s = 0; s < 3; s++) {
            due.deliverSlot(x, 3, 3, s);
            due.deliverSlot(x, 4, 3, s);
        }
        while (Due.deliverTo(x, 1, 4)) {
            due.same("nothing is lost", x.lost(), 0);
        }
        due.same("main 1 knows all", x.about(1, 0), 3);
        x.crash(2, false);
        due.deliverSlot(x, 2, 5, 0);
        due.deliverSlot(x, 2, 5, 2);
        Due.loseAll(x);
        due.same("waits", x.submit(0, 5), 1);
        Due.ticks(x, 3);
        due.deliverFrom(x, 0, 2, 1);
        due.same("DECIDED of slot 0 and 2", Scenes.count(x, 5), 2);
        due.deliverFrom(x, 2, 0, 2);
        due.same("LEADING with 8", x.about(0, 2), 8);
        int[] row = {6, 0, 8, 5};
        for (int s = 0; s < 4; s++) {
            due.same("slot " + s, x.accepted(0, s, 0), 8);
            due.same("slot " + s, x.accepted(0, s, 1), row[s]);
        }
    }

    /** Main 2 knows slots 0 .. 3 and goes by slot 1: it leads, and is no MEMBER for 5 .. 7. */
    private static void severalSlotsAtOnce() {
        CheapVotes x = Scenes.mainTwoGoes(4);
        for (int k = 0; k < 4; k++) {
            x.submit(2, 31 + k);
        }
        due.same("campaign", x.campaign(2), 18);
        for (int main = 0; main < 2; main++) {
            due.deliverFrom(x, 2, main, 1);
        }
        for (int main = 0; main < 2; main++) {
            due.deliverFrom(x, main, 2, 2);
        }
        due.same("LEADING", x.about(2, 1), 2);
        due.same("KNOWN", x.about(2, 0), 4);
        while (x.message(0, 2) == 5) {
            x.lose(0);
        }
        due.onWay("slots 4 .. 7", x, Due.mail(2, 0, 3, 18, 4, 0), Due.mail(2, 1, 3, 18, 4, 0),
            Due.mail(2, 0, 3, 18, 5, 31), Due.mail(2, 1, 3, 18, 5, 31),
            Due.mail(2, 0, 3, 18, 6, 32), Due.mail(2, 1, 3, 18, 6, 32),
            Due.mail(2, 0, 3, 18, 7, 33), Due.mail(2, 1, 3, 18, 7, 33));
        due.same("34 waits", x.about(2, 6), 1);
        due.same("slot 4 to itself", x.accepted(2, 4, 0), 18);
        due.same("slot 5 not", x.accepted(2, 5, 0), 0);
    }

    /**
     * Spare 4 forgot all before slot 5, spare 3 heard nothing of that. Main 2 knows slots 0 .. 3:
     * for slot 4 spare 4 does not count, for slot 5 it does.
     */
    private static void lowNotAboveTheSlot() {
        CheapVotes x = Scenes.mainTwoIsGoing(5);
        x.tick();
        due.onWay("FORGET", x, Due.mail(0, 3, 7, 0, 5, 0), Due.mail(0, 4, 7, 0, 5, 0));
        x.lose(0);
        x.deliver(0);
        x.crash(2, false);
        due.same("waits", x.submit(2, 50), 1);
        due.same("campaign", x.campaign(2), 10);
        due.deliverFrom(x, 2, 0, 1);
        for (int s = 0; s < 4; s++) {
            due.deliverSlot(x, 2, 5, s);
        }
        due.deliverFrom(x, 0, 2, 2);
        Due.loseAll(x);
        Due.ticks(x, 3);
        due.deliverFrom(x, 2, 4, 1);
        due.same("LOW of spare 4", x.message(x.way() - 1, 4), 5);
        due.deliverFrom(x, 4, 2, 2);
        due.same("0, 2 and 4 are none for slot 4", x.about(2, 1), 1);
        due.deliverFrom(x, 2, 3, 1);
        due.deliverFrom(x, 3, 2, 2);
        due.same("0, 2 and 3 are one", x.about(2, 1), 2);
        due.same("KNOWN", x.about(2, 0), 4);
        due.same("slot 4 as main 0 told", x.accepted(2, 4, 0), 10);
        due.same("0, 3 and 4 are one for slot 5", x.about(2, 6), 0);
        due.same("ACCEPT for slot 5", x.message(x.way() - 1, 4), 5);
        due.same("50", x.message(x.way() - 1, 5), 50);
    }

    /** Main 2 goes by slot 1, and KNOWN is 2: it is asked for slot 4 and not for slot 5. */
    private static void acceptToMembersForItsSlot() {
        CheapVotes x = Scenes.mainTwoIsGoing(2);
        for (int k = 0; k < 4; k++) {
            x.submit(0, 22 + k);
        }
        due.onWay("slots 2 .. 5", x, Due.mail(0, 1, 3, 8, 2, 22), Due.mail(0, 2, 3, 8, 2, 22),
            Due.mail(0, 1, 3, 8, 3, 23), Due.mail(0, 2, 3, 8, 3, 23),
            Due.mail(0, 1, 3, 8, 4, 24), Due.mail(0, 2, 3, 8, 4, 24),
            Due.mail(0, 1, 3, 8, 5, 25));
        due.same("itself for each", x.about(0, 5), 6);
    }
}
