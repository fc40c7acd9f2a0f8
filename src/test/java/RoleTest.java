/** What counts only with one BALLOT and is gone with a ROLE, and orders that seldom come about. */
final class RoleTest {
    private static final Due due = new Due();

    public static void main(String[] args) {
        takersAreGone();
        mainOneLeadsTwice();
        oldTakenDoesNotCount();
        slotTicksAreGone();
        toldIsGone();
        toldWhilePreparing();
        latestToldIsNotTheGreatest();
        forgottenIsGone();
        askedSparesAreGone();
        askedByPrepareAlone();
        proposedGoingIsGone();
        goingInTheLogDoesNotWait();
        laterGoingStandsBeforeWhatWaits();
        goingLearntInAnotherOrder();
        greatestBallotOfAnyNode();
        decidedIsAboveAllBallots();
        logTellsWhatWasNotAccepted();
        wantedPromisesHoldBack();
        fullWindowWantsNothing();
        acceptIsAPromise();
        due.end("RoleTest");
    }

    /** Slot 0 has 5, of main 0 and 1; main 0 leads anew with 16, and ACCEPT 16 is on the way. */
    private static CheapVotes ledAgain() {
        CheapVotes x = Due.led(3);
        x.submit(0, 5);
        Due.deliverTo(x, 1, 3);
        Due.deliverTo(x, 0, 4);
        Due.loseAll(x);
        x.campaign(0);
        for (int k = 0; k < 4; k++) {
            x.deliver(0);
        }
        due.onWay("5 anew", x, Due.mail(0, 1, 3, 16, 0, 5), Due.mail(0, 2, 3, 16, 0, 5));
        return x;
    }

    private static void takersAreGone() {
        CheapVotes x = ledAgain();
        Due.deliverTo(x, 2, 3);
        Due.deliverTo(x, 0, 4);
        due.same("main 1 took it with 8 alone", x.about(0, 0), 0);
        Due.deliverTo(x, 1, 3);
        Due.deliverTo(x, 0, 4);
        due.same("now with 16", x.about(0, 0), 1);
    }

    /** Main 0 is silent, which main 1, LEADING once more, takes neither for a yes nor for gone. */
    private static void mainOneLeadsTwice() {
        CheapVotes x = new CheapVotes(3);
        for (int k = 0; k < 2; k++) {
            x.campaign(1);
            Due.deliverAll(x);
        }
        due.same("LEADING", x.about(1, 1), 2);
        x.submit(1, 5);
        Due.deliverTo(x, 2, 3);
        Due.deliverTo(x, 1, 4);
        due.same("main 0 did not take it", x.about(1, 0), 0);
        Due.loseAll(x);
        Due.ticks(x, 4);
        due.same("main 0 goes", x.accepted(1, 1, 1), -1);
        due.same("main 2 does not", x.accepted(1, 2, 0), 0);
    }

    private static void oldTakenDoesNotCount() {
        CheapVotes x = Due.led(2);
        x.submit(0, 5);
        x.deliver(0);
        due.onWay("TAKEN with 8", x, Due.mail(1, 0, 4, 8, 0, 0));
        x.campaign(0);
        x.deliver(1);
        x.deliver(1);
        due.onWay("and ACCEPT with 16", x, Due.mail(1, 0, 4, 8, 0, 0), Due.mail(0, 1, 3, 16, 0, 5));
        x.deliver(0);
        due.same("does not count", x.about(0, 0), 0);
        Due.deliverAll(x);
        due.same("decided", x.decided(0, 0), 5);
    }

    private static void slotTicksAreGone() {
        CheapVotes x = Due.led(2);
        x.submit(0, 5);
        Due.ticks(x, 2);
        Due.loseAll(x);
        x.campaign(0);
        x.deliver(0);
        x.deliver(0);
        Due.loseAll(x);
        Due.ticks(x, 2);
        due.same("2nd", x.way(), 0);
        x.tick();
        due.onWay("3rd", x, Due.mail(0, 1, 3, 16, 0, 5), Due.mail(0, 2, 3, 16, 0, 5));
    }

    /** Slot 0 is decided and main 1 TOLD 1, which stands once more on the way. */
    private static CheapVotes withLateTold() {
        CheapVotes x = Due.led(2);
        x.submit(0, 5);
        for (int k = 0; k < 3; k++) {
            x.deliver(0);
        }
        due.onWay("TOLD", x, Due.mail(1, 0, 6, 0, 1, 0));
        x.repeat(0);
        x.deliver(0);
        x.tick();
        due.same("no spare was asked", x.way(), 1);
        return x;
    }

    /** Main 0 prepares anew, asks the spare by a tick, and leads with it; main 1 hears nothing. */
    private static void leadWithSpare(CheapVotes x) {
        Due.ticks(x, 3);
        Due.deliverTo(x, 2, 1);
        Due.deliverTo(x, 0, 2);
        due.same("LEADING", x.about(0, 1), 2);
    }

    private static void toldIsGone() {
        CheapVotes x = withLateTold();
        x.campaign(0);
        leadWithSpare(x);
        Due.loseAll(x);
        x.tick();
        due.same("main 1 told nothing to this BALLOT", x.way(), 0);
    }

    private static void toldWhilePreparing() {
        CheapVotes x = withLateTold();
        x.campaign(0);
        due.same("TOLD comes", Due.deliverTo(x, 0, 6) ? 1 : 0, 1);
        due.same("PREPARING", x.about(0, 1), 1);
        leadWithSpare(x);
        Due.loseAll(x);
        x.tick();
        due.same("only one that is LEADING keeps it", x.way(), 0);
    }

    private static void forgottenIsGone() {
        CheapVotes x = withLateTold();
        x.campaign(0);
        leadWithSpare(x);
        due.same("TOLD comes", Due.deliverTo(x, 0, 6) ? 1 : 0, 1);
        Due.loseAll(x);
        x.tick();
        due.onWay("k is 1 once more, above 0", x, Due.mail(0, 2, 7, 0, 1, 0));
    }

    private static void latestToldIsNotTheGreatest() {
        CheapVotes x = Due.led(2);
        x.submit(0, 5);
        x.submit(0, 6);
        Due.loseAll(x);
        Due.ticks(x, 3);
        while (Due.deliverTo(x, 1, 3) || Due.deliverTo(x, 0, 4) || Due.deliverTo(x, 1, 5)) {
            due.same("nothing is lost", x.lost(), 0);
        }
        while (x.message(0, 2) != 6) {
            x.lose(0);
        }
        due.onWay("TOLD 1 and 2", x, Due.mail(1, 0, 6, 0, 1, 0), Due.mail(1, 0, 6, 0, 2, 0));
        x.deliver(1);
        x.deliver(0);
        x.tick();
        due.onWay("k is 2", x, Due.mail(0, 2, 7, 0, 2, 0));
    }

    private static void askedSparesAreGone() {
        CheapVotes x = Due.led(2);
        x.submit(0, 5);
        Due.loseAll(x);
        Due.ticks(x, 3);
        due.same("the spare is asked with 8", x.message(1, 1), 2);
        Due.deliverAll(x);
        x.campaign(0);
        Due.deliverAll(x);
        x.submit(0, 6);
        Due.deliverAll(x);
        due.same("KNOWN", x.about(1, 0), 2);
        x.tick();
        due.same("not asked with 16", x.way(), 0);
        due.same("keeps it", x.about(2, 5), 1);
    }

    private static void askedByPrepareAlone() {
        CheapVotes x = new CheapVotes(2);
        x.campaign(0);
        Due.loseAll(x);
        leadWithSpare(x);
        Due.loseAll(x);
        x.submit(0, 5);
        Due.deliverAll(x);
        due.same("all MEMBERS took it", x.decided(1, 0), 5);
        x.tick();
        due.onWay("FORGET", x, Due.mail(0, 2, 7, 0, 1, 0));
    }

    /** Main 0 PROPOSED that 1 and 2 go, in vain; LEADING anew it may do so once more. */
    private static void proposedGoingIsGone() {
        CheapVotes x = Due.led(3);
        x.submit(0, 7);
        Due.ticks(x, 4);
        due.same("main 2 goes", x.accepted(0, 2, 1), -3);
        Due.loseAll(x);
        x.crash(0, true);
        x.campaign(1);
        Due.deliverAll(x);
        Due.ticks(x, 3);
        Due.deliverAll(x);
        for (int k = 11; k <= 13; k++) {
            x.submit(1, k);
        }
        Due.ticks(x, 3);
        Due.deliverAll(x);
        due.same("other commands won", x.decided(2, 2), 13);
        x.crash(0, false);
        due.same("campaign", x.campaign(0), 16);
        Due.deliverAll(x);
        due.same("KNOWN", x.about(0, 0), 3);
        x.submit(0, 21);
        Due.deliverTo(x, 1, 3);
        Due.deliverTo(x, 0, 4);
        Due.loseAll(x);
        Due.ticks(x, 4);
        due.same("main 2 goes", x.accepted(0, 4, 1), -3);
    }

    /** Main 1 leads, and its LOG has slots 1 and 2, by which mains 2 and 3 go, but not slot 0. */
    private static void goingInTheLogDoesNotWait() {
        CheapVotes x = Due.led(4);
        x.crash(2, true);
        x.crash(3, true);
        x.submit(0, 7);
        x.run(4);
        while (x.about(0, 7) < 3) {
            if (!Due.deliverTo(x, 1, 3) && !Due.deliverTo(x, 4, 3) && !Due.deliverTo(x, 5, 3)
                    && !Due.deliverTo(x, 0, 4)) {
                x.tick();
            }
        }
        Due.loseAll(x);
        due.same("main 1 knows nothing", x.about(1, 7), 0);
        x.campaign(1);
        Due.deliverTo(x, 0, 1);
        due.same("slot 0 is lost", x.message(2, 4), 0);
        x.lose(2);
        Due.deliverAll(x);
        due.same("gap", x.about(1, 0), 0);
        due.same("slot 1", x.decided(1, 1), -3);
        due.same("slot 2", x.decided(1, 2), -4);
        Due.ticks(x, 3);
        for (int spare = 4; spare <= 5; spare++) {
            Due.deliverTo(x, spare, 1);
            Due.deliverTo(x, 1, 2);
        }
        due.same("LEADING", x.about(1, 1), 2);
        due.same("slot 0 anew", x.accepted(1, 0, 0), 9);
        Due.deliverTo(x, 0, 3);
        Due.deliverTo(x, 1, 4);
        Due.loseAll(x);
        Due.ticks(x, 4);
        due.same("slot 0 is open", x.about(1, 0), 0);
        due.same("nobody waits to go again", x.about(1, 6), 0);
        due.same("nor is PROPOSED", x.accepted(1, 3, 0), 0);
    }

    private static void laterGoingStandsBeforeWhatWaits() {
        CheapVotes x = Due.led(4);
        x.submit(0, 1);
        Due.deliverTo(x, 1, 3);
        Due.deliverTo(x, 2, 3);
        Due.deliverTo(x, 0, 4);
        Due.deliverTo(x, 0, 4);
        Due.loseAll(x);
        Due.ticks(x, 4);
        due.same("main 3 goes", x.accepted(0, 1, 1), -4);
        int[] waits = {0, 0, 1, 2};
        for (int k = 0; k < 4; k++) {
            due.same("submit", x.submit(0, 21 + k), waits[k]);
        }
        Due.deliverTo(x, 1, 3);
        Due.deliverTo(x, 0, 4);
        Due.loseAll(x);
        Due.ticks(x, 4);
        due.same("main 1 and 2 wait to go", x.about(0, 6), 4);
        Due.ticks(x, 1);
        Due.deliverAll(x);
        due.same("main 2 goes first, as main 1 took slot 1", x.decided(0, 4), -3);
        due.same("then main 1, by slot 2", x.decided(0, 5), -2);
        due.same("then what was submitted", x.decided(0, 6), 23);
    }

    /** The latest one that goes is that of the last slot, not the one learnt last. */
    private static void goingLearntInAnotherOrder() {
        CheapVotes x = Due.led(4);
        x.crash(2, true);
        x.crash(3, true);
        x.submit(0, 7);
        x.run(4);
        due.same("slot 1", x.accepted(0, 1, 1), -3);
        due.same("slot 2", x.accepted(0, 2, 1), -4);
        while (x.about(0, 7) == 0) {
            if (!deliverSlot(x, 2)) {
                x.tick();
            }
        }
        due.same("slot 2 first", x.decided(0, 2), -4);
        for (int k = 0; k < 50; k++) {
            Due.deliverAll(x);
            x.tick();
        }
        due.same("KNOWN is 2 + 4", x.about(0, 0), 6);
        due.same("MEMBERS", x.members(0, 6), 3);
    }

    /** Delivers the first ACCEPT or TAKEN of a slot. */
    private static boolean deliverSlot(CheapVotes x, int slot) {
        for (int i = 0; i < x.way(); i++) {
            int kind = x.message(i, 2);
            if ((kind == 3 || kind == 4) && x.message(i, 4) == slot) {
                x.deliver(i);
                return true;
            }
        }
        return false;
    }

    private static void campaignWith(CheapVotes x, int main, int r) {
        while (x.campaign(main) / 8 < r) {
            Due.loseAll(x);
        }
    }

    /** Lets a main lead by spares, while another one is crashed, and PROPOSE without an echo. */
    private static void proposeAlone(CheapVotes x, int main, int crashed, int r) {
        x.crash(crashed, true);
        campaignWith(x, main, r);
        Due.deliverAll(x);
        Due.ticks(x, 3);
        Due.deliverAll(x);
        x.submit(main, r);
        Due.loseAll(x);
        x.crash(main, true);
        x.crash(main, false);
        x.crash(crashed, false);
    }

    private static void greatestBallotOfAnyNode() {
        int[][] orders = {{0, 1, 2}, {1, 0, 2}, {1, 2, 0}, {2, 1, 0}, {0, 2, 1}, {2, 0, 1}};
        for (int[] order : orders) {
            CheapVotes x = new CheapVotes(3);
            proposeAlone(x, order[0], order[1], 5);
            proposeAlone(x, order[1], order[0], 7);
            String what = order[0] + ", then " + order[1];
            due.same(what, x.accepted(order[0], 0, 1), 5);
            due.same(what, x.accepted(order[1], 0, 1), 7);
            campaignWith(x, order[2], 9);
            Due.deliverAll(x);
            due.same(what + ": the later one wins", x.decided(order[2], 0), 7);
        }
    }

    /** Main 0 still has 5 with 8; the others know 6, and their PROMISEs alone tell it. */
    private static void decidedIsAboveAllBallots() {
        CheapVotes x = Due.led(3);
        x.submit(0, 5);
        Due.loseAll(x);
        x.crash(0, true);
        x.campaign(1);
        Due.deliverAll(x);
        Due.ticks(x, 3);
        Due.deliverAll(x);
        x.submit(1, 6);
        Due.ticks(x, 3);
        Due.deliverAll(x);
        due.same("decided", x.decided(2, 0), 6);
        x.crash(0, false);
        due.same("campaign", x.campaign(0), 16);
        x.deliver(0);
        x.deliver(0);
        due.same("DECIDED", x.message(0, 2), 5);
        due.same("DECIDED", x.message(2, 2), 5);
        x.lose(2);
        x.lose(0);
        x.deliver(0);
        x.deliver(0);
        due.onWay("6 anew", x, Due.mail(0, 1, 3, 16, 0, 6), Due.mail(0, 2, 3, 16, 0, 6));
    }

    private static void deliverFrom(CheapVotes x, int from, int to, int kind) {
        for (int i = 0; i < x.way(); i++) {
            if (x.message(i, 0) == from && x.message(i, 1) == to && x.message(i, 2) == kind) {
                x.deliver(i);
                return;
            }
        }
        due.same("no kind " + kind + " from " + from + " to " + to, 0, 1);
    }

    /** Main 2 only heard that 6 is decided, with a BALLOT above the one that it promises. */
    private static void logTellsWhatWasNotAccepted() {
        CheapVotes x = new CheapVotes(3);
        x.crash(2, true);
        x.campaign(0);
        Due.loseAll(x);
        Due.ticks(x, 3);
        deliverFrom(x, 0, 3, 1);
        deliverFrom(x, 3, 0, 2);
        Due.loseAll(x);
        x.campaign(1);
        Due.ticks(x, 3);
        for (int spare = 3; spare <= 4; spare++) {
            deliverFrom(x, 1, spare, 1);
            deliverFrom(x, spare, 1, 2);
        }
        due.same("LEADING with 9", x.about(1, 1), 2);
        x.submit(1, 6);
        Due.loseAll(x);
        Due.ticks(x, 3);
        for (int spare = 3; spare <= 4; spare++) {
            deliverFrom(x, 1, spare, 3);
            deliverFrom(x, spare, 1, 4);
        }
        due.same("decided", x.decided(1, 0), 6);
        x.crash(2, false);
        deliverFrom(x, 1, 2, 5);
        Due.loseAll(x);
        due.same("main 2 knows", x.decided(2, 0), 6);
        due.same("and ACCEPTED nothing", x.about(2, 5), 0);
        due.same("waits", x.submit(0, 5), 1);
        Due.ticks(x, 3);
        deliverFrom(x, 0, 2, 1);
        deliverFrom(x, 2, 0, 2);
        due.same("LEADING with 8", x.about(0, 1), 2);
        due.same("knows nothing", x.about(0, 7), 0);
        due.same("6 for slot 0", x.accepted(0, 0, 1), 6);
        due.same("5 for slot 1", x.accepted(0, 1, 1), 5);
    }

    /** Slot 5 is without main 1, and 0 and 3 alone promised for it: what is submitted waits. */
    private static void wantedPromisesHoldBack() {
        CheapVotes x = new CheapVotes(3);
        x.crash(2, true);
        x.campaign(0);
        x.run(3);
        x.lose(2);
        x.run(2);
        x.crash(1, true);
        x.crash(2, false);
        x.submit(0, 7);
        for (int k = 0; k < 60 && x.about(0, 5) < 5; k++) {
            x.run(1);
        }
        due.same("KNOWN", x.about(0, 0), 4);
        due.same("slot 4 is PROPOSED", x.accepted(0, 4, 0), 8);
        due.same("MEMBERS for 5", x.members(0, 5), 5);
        due.same("waits", x.submit(0, 8), 1);
        due.same("not PROPOSED", x.accepted(0, 5, 0), 0);
        x.run(12);
        due.same("does not wait any more", x.about(0, 6), 0);
        due.same("slot 5", x.decided(0, 5), 8);
    }

    private static void fullWindowWantsNothing() {
        CheapVotes x = Due.led(2);
        for (int k = 1; k <= 4; k++) {
            x.submit(0, k);
        }
        Due.loseAll(x);
        Due.ticks(x, 3);
        due.same("two ACCEPTs for each slot", x.way(), 8);
        for (int i = 0; i < 8; i++) {
            due.same("ACCEPT", x.message(i, 2), 3);
        }
    }

    private static void acceptIsAPromise() {
        CheapVotes x = Due.led(2);
        x.submit(0, 5);
        Due.ticks(x, 3);
        due.same("the spare has not promised", x.about(2, 3), 0);
        Due.deliverTo(x, 2, 3);
        due.same("PROMISED", x.about(2, 3), 8);
        due.same("ACCEPTED", x.accepted(2, 0, 0), 8);
        due.same("ACCEPTED", x.accepted(2, 0, 1), 5);
    }
}
