/** Part 1, NODES: when a ROLE is 0, and what is gone with it. */
final class Part1RoleTest {
    private static final Due due = new Due();

    public static void main(String[] args) {
        greaterBallotEndsTheRole();
        campaignAgainForgetsProposals();
        takersAreGone();
        mainOneLeadsTwice();
        slotTicksAreGone();
        ticksAreGone();
        proposedIsGoneByACrash();
        toldIsGone();
        forgottenIsGone();
        askedSparesAreGone();
        proposedGoingIsGone();
        due.end("Part1RoleTest");
    }

    private static void greaterBallotEndsTheRole() {
        CheapVotes x = Due.led(3);
        x.submit(0, 5);
        Due.loseAll(x);
        x.campaign(1);
        due.same("to main 0", x.message(0, 1), 0);
        x.deliver(0);
        due.same("ROLE", x.about(0, 1), 0);
        due.same("BALLOT", x.about(0, 2), 0);
        due.same("PROMISED", x.about(0, 3), 9);
        due.same("waits at one that does not lead", x.submit(0, 6), 1);
        // One with a BALLOT below its own does not.
        CheapVotes y = new CheapVotes(2);
        y.campaign(0);
        y.campaign(1);
        y.deliver(0);
        due.same("still PREPARING", y.about(1, 1), 1);
    }

    private static void campaignAgainForgetsProposals() {
        CheapVotes x = Due.led(3);
        x.submit(0, 5);
        Due.loseAll(x);
        due.same("campaign", x.campaign(0), 16);
        due.same("PREPARING", x.about(0, 1), 1);
        Due.deliverTo(x, 1, 1);
        Due.deliverTo(x, 2, 1);
        Due.deliverTo(x, 0, 2);
        due.same("one PROMISE is missing", x.about(0, 1), 1);
        Due.deliverTo(x, 0, 2);
        due.onWay("5 once more", x, Due.mail(0, 1, 3, 16, 0, 5), Due.mail(0, 2, 3, 16, 0, 5));
    }

    /** Slot 0 has 5, of main 0 and 1; main 0 leads anew with 16, and ACCEPT 16 is on the way. */
    private static CheapVotes ledAgain() {
        CheapVotes x = Due.led(3);
        x.submit(0, 5);
        Due.deliverTo(x, 1, 3);
        Due.deliverTo(x, 0, 4);
        Due.loseAll(x);
        x.campaign(0);
        for (int k = 0; k < 4; k++) {
            x.deliver(0);
        }
        due.onWay("5 anew", x, Due.mail(0, 1, 3, 16, 0, 5), Due.mail(0, 2, 3, 16, 0, 5));
        return x;
    }

    private static void takersAreGone() {
        CheapVotes x = ledAgain();
        Due.deliverTo(x, 2, 3);
        Due.deliverTo(x, 0, 4);
        due.same("main 1 took it with 8 alone", x.about(0, 0), 0);
        Due.deliverTo(x, 1, 3);
        Due.deliverTo(x, 0, 4);
        due.same("now with 16", x.about(0, 0), 1);
    }

    /** Main 0 is silent, which main 1, LEADING once more, takes neither for a yes nor for gone. */
    private static void mainOneLeadsTwice() {
        CheapVotes x = new CheapVotes(3);
        for (int k = 0; k < 2; k++) {
            x.campaign(1);
            Due.deliverAll(x);
        }
        due.same("LEADING", x.about(1, 1), 2);
        x.submit(1, 5);
        Due.deliverTo(x, 2, 3);
        Due.deliverTo(x, 1, 4);
        due.same("main 0 did not take it", x.about(1, 0), 0);
        Due.loseAll(x);
        Due.ticks(x, 4);
        due.same("main 0 goes", x.accepted(1, 1, 1), -1);
        due.same("main 2 does not", x.accepted(1, 2, 0), 0);
    }

    private static void slotTicksAreGone() {
        CheapVotes x = Due.led(2);
        x.submit(0, 5);
        Due.ticks(x, 2);
        Due.loseAll(x);
        x.campaign(0);
        x.deliver(0);
        x.deliver(0);
        Due.loseAll(x);
        Due.ticks(x, 2);
        due.same("2nd", x.way(), 0);
        x.tick();
        due.onWay("3rd", x, Due.mail(0, 1, 3, 16, 0, 5), Due.mail(0, 2, 3, 16, 0, 5));
    }

    private static void toldIsGone() {
        CheapVotes x = Scenes.lateTold();
        x.campaign(0);
        Scenes.leadWithSpare(x);
        Due.loseAll(x);
        x.tick();
        due.same("main 1 told nothing to this BALLOT", x.way(), 0);
    }

    private static void forgottenIsGone() {
        CheapVotes x = Scenes.lateTold();
        x.campaign(0);
        Scenes.leadWithSpare(x);
        due.same("TOLD comes", Due.deliverTo(x, 0, 6) ? 1 : 0, 1);
        Due.loseAll(x);
        x.tick();
        due.onWay("k is 1 once more, above 0", x, Due.mail(0, 2, 7, 0, 1, 0));
    }

    private static void askedSparesAreGone() {
        CheapVotes x = Due.led(2);
        x.submit(0, 5);
        Due.loseAll(x);
        Due.ticks(x, 3);
        due.same("the spare is asked with 8", x.message(1, 1), 2);
        Due.deliverAll(x);
        x.campaign(0);
        Due.deliverAll(x);
        x.submit(0, 6);
        Due.deliverAll(x);
        due.same("KNOWN", x.about(1, 0), 2);
        x.tick();
        due.same("not asked with 16", x.way(), 0);
        due.same("keeps it", x.about(2, 5), 1);
    }

    /** Main 0 PROPOSED that 1 and 2 go, in vain; LEADING anew it may do so once more. */
    private static void proposedGoingIsGone() {
        CheapVotes x = Due.led(3);
        x.submit(0, 7);
        Due.ticks(x, 4);
        due.same("main 2 goes", x.accepted(0, 2, 1), -3);
        Due.loseAll(x);
        x.crash(0, true);
        x.campaign(1);
        Due.deliverAll(x);
        Due.ticks(x, 3);
        Due.deliverAll(x);
        for (int k = 11; k <= 13; k++) {
            x.submit(1, k);
        }
        Due.ticks(x, 3);
        Due.deliverAll(x);
        due.same("other commands won", x.decided(2, 2), 13);
        x.crash(0, false);
        due.same("campaign", x.campaign(0), 16);
        Due.deliverAll(x);
        due.same("KNOWN", x.about(0, 0), 3);
        x.submit(0, 21);
        Due.deliverTo(x, 1, 3);
        Due.deliverTo(x, 0, 4);
        Due.loseAll(x);
        Due.ticks(x, 4);
        due.same("main 2 goes", x.accepted(0, 4, 1), -3);
    }

    /** The ROLE ends by a new campaign, and by a greater BALLOT and a new campaign. */
    private static void ticksAreGone() {
        for (int way = 0; way < 2; way++) {
            CheapVotes x = new CheapVotes(2);
            x.campaign(0);
            Due.loseAll(x);
            Due.ticks(x, 2);
            if (way == 1) {
                x.campaign(1);
                x.deliver(0);
                due.same("no ROLE", x.about(0, 1), 0);
                x.crash(1, true);
            }
            x.campaign(0);
            Due.loseAll(x);
            Due.ticks(x, 2);
            due.same("2nd", x.way(), 0);
            x.tick();
            due.same("3rd", x.way(), 2);
        }
    }

    /** Main 0 PROPOSED 5 and 6 and crashed: it leads anew, and PROPOSES what it ACCEPTED. */
    private static void proposedIsGoneByACrash() {
        CheapVotes x = Due.led(2);
        x.submit(0, 5);
        x.submit(0, 6);
        Due.loseAll(x);
        x.crash(0, true);
        x.crash(0, false);
        due.same("ROLE", x.about(0, 1), 0);
        due.same("BALLOT", x.about(0, 2), 0);
        due.same("what was PROPOSED does not wait", x.about(0, 6), 0);
        due.same("campaign", x.campaign(0), 16);
        Due.deliverTo(x, 1, 1);
        Due.deliverTo(x, 0, 2);
        due.onWay("anew", x, Due.mail(0, 1, 3, 16, 0, 5), Due.mail(0, 1, 3, 16, 1, 6));
    }
}
