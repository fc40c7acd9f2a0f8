/** Part 2, MESSAGES: the kinds 1 to 8 in ordinary runs. */
final class Part2KindsTest {
    private static final Due due = new Due();

    public static void main(String[] args) {
        prepareRefused();
        prepareTellsTheLog();
        prepareToItselfTellsTheLog();
        promiseOfAnotherBallot();
        promisesNeedAQuorum();
        promisesWithSpares();
        promisesAreForKnown();
        preparingTillAPromiseComes();
        forgetfulSpareDoesNotCount();
        acceptRefused();
        acceptIsAPromise();
        acceptBelowLow();
        takenByAll();
        takenWithSpares();
        takenByMembersForItsSlot();
        oldTakenDoesNotCount();
        decidedTwiceAndGap();
        toldWhilePreparing();
        latestToldIsNotTheGreatest();
        refusedIsNothing();
        due.end("Part2KindsTest");
    }

    private static void prepareRefused() {
        CheapVotes x = new CheapVotes(2);
        x.campaign(0);
        x.campaign(1);
        x.deliver(0);
        due.onWay("8 below 9", x, Due.mail(1, 0, 1, 9, 0, 0), Due.mail(1, 0, 8, 9, 0, 0));
        due.same("PREPARING till it hears of it", x.about(0, 1), 1);
        due.same("REFUSED comes", x.deliver(1), 8);
        due.same("a BALLOT above its own", x.about(0, 1), 0);
        due.same("REFUSED is nothing else", x.about(0, 3), 8);
        // The same BALLOT once more is not below.
        x.repeat(0);
        x.deliver(0);
        x.deliver(0);
        due.onWay("two PROMISEs", x, Due.mail(0, 1, 2, 9, 0, 0), Due.mail(0, 1, 2, 9, 0, 0));
    }

    private static void prepareTellsTheLog() {
        CheapVotes x = Due.led(3);
        x.submit(0, 5);
        x.submit(0, 6);
        x.submit(0, 7);
        for (int k = 0; k < 12; k++) {
            x.deliver(0);
        }
        // Main 1 gets slot 0 alone.
        Due.deliverTo(x, 1, 5);
        Due.loseAll(x);
        x.campaign(1);
        due.onWay("with KNOWN", x, Due.mail(1, 0, 1, 9, 1, 0), Due.mail(1, 2, 1, 9, 1, 0));
        x.deliver(0);
        due.onWay("slots 1 and 2, then PROMISE", x, Due.mail(1, 2, 1, 9, 1, 0),
            Due.mail(0, 1, 5, 0, 1, 6), Due.mail(0, 1, 5, 0, 2, 7), Due.mail(0, 1, 2, 9, 0, 0));
        due.same("main 0 no more", x.about(0, 1), 0);
    }

    private static void prepareToItselfTellsTheLog() {
        CheapVotes x = Due.led(2);
        x.submit(0, 5);
        x.submit(0, 6);
        x.deliver(1);
        x.deliver(1);
        // Main 0 has slot 1 and not slot 0: DECIDED, PROMISE and TOLD come beside PREPARE.
        Due.loseAll(x);
        int before = x.about(0, 8);
        x.campaign(0);
        due.same("to itself", x.about(0, 8) - before, 4);
        due.onWay("to the other one", x, Due.mail(0, 1, 1, 16, 0, 0));
    }

    private static void promiseOfAnotherBallot() {
        CheapVotes x = new CheapVotes(2);
        x.campaign(0);
        x.deliver(0);
        x.campaign(0);
        x.deliver(0);
        due.same("an old PROMISE does not count", x.about(0, 1), 1);
        x.deliver(0);
        x.crash(0, true);
        x.crash(0, false);
        x.deliver(0);
        due.same("nor one without a ROLE", x.about(0, 1), 0);
    }

    private static void promisesNeedAQuorum() {
        CheapVotes x = new CheapVotes(3);
        x.campaign(0);
        x.deliver(0);
        x.repeat(1);
        x.deliver(1);
        x.deliver(1);
        due.same("the same one twice", x.about(0, 1), 1);
        Due.deliverAll(x);
        due.same("all MEMBERS", x.about(0, 1), 2);

        CheapVotes five = new CheapVotes(5);
        five.campaign(2);
        for (int k = 0; k < 7; k++) {
            five.deliver(0);
        }
        due.same("four of five MEMBERS", five.about(2, 1), 1);
        five.deliver(0);
        due.same("five of five MEMBERS", five.about(2, 1), 2);
    }

    private static void promisesWithSpares() {
        CheapVotes x = new CheapVotes(3);
        x.crash(2, true);
        x.campaign(0);
        Due.deliverAll(x);
        x.tick();
        x.tick();
        due.same("not before the 3rd", x.way(), 0);
        x.tick();
        due.onWay("to all that have not promised", x, Due.mail(0, 2, 1, 8, 0, 0),
            Due.mail(0, 3, 1, 8, 0, 0), Due.mail(0, 4, 1, 8, 0, 0));
        x.deliver(1);
        due.same("two of five", x.about(0, 1), 1);
        x.deliver(2);
        due.same("three of five", x.about(0, 1), 2);
        due.same("the spare's PROMISED", x.about(3, 3), 8);

        // Four of seven, and five of nine.
        int[][] sizes = {{4, 1}, {5, 2}, {2, 0}};
        for (int[] size : sizes) {
            CheapVotes y = new CheapVotes(size[0]);
            for (int i = 1; i < size[0]; i++) {
                y.crash(i, true);
            }
            y.campaign(0);
            Due.loseAll(y);
            y.tick();
            y.tick();
            y.tick();
            Due.deliverAll(y);
            due.same("one main and all spares of " + size[0], y.about(0, 1), 2);
            due.same("it asked spares", y.about(size[0], 8), 1);
        }
    }

    /** A main that knows too little cannot lead with a spare that forgot. */
    private static void forgetfulSpareDoesNotCount() {
        CheapVotes x = Scenes.mainOneIsOut();
        due.same("LOW", x.about(2, 4), 5);
        x.crash(0, true);
        x.crash(1, false);
        due.same("campaign", x.campaign(1), 9);
        x.run(10);
        due.same("the spare's PROMISED", x.about(2, 3), 9);
        due.same("not LEADING", x.about(1, 1), 1);
        due.same("KNOWN", x.about(1, 0), 0);
    }

    private static void acceptRefused() {
        CheapVotes x = Due.led(3);
        x.campaign(1);
        x.deliver(1);
        x.submit(0, 5);
        due.same("ACCEPT to main 2", x.message(3, 1), 2);
        x.deliver(3);
        due.same("REFUSED", x.message(3, 2), 8);
        due.same("with PROMISED", x.message(3, 3), 9);
        due.same("not ACCEPTED", x.accepted(2, 0, 0), 0);
        x.deliver(3);
        due.same("no more LEADING", x.about(0, 1), 0);
        due.same("what it PROPOSED waits no more", x.about(0, 6), 0);
    }

    private static void acceptIsAPromise() {
        CheapVotes x = Due.led(2);
        x.submit(0, 5);
        Due.ticks(x, 3);
        due.same("the spare has not promised", x.about(2, 3), 0);
        Due.deliverTo(x, 2, 3);
        due.same("PROMISED", x.about(2, 3), 8);
        due.same("ACCEPTED", x.accepted(2, 0, 0), 8);
        due.same("ACCEPTED", x.accepted(2, 0, 1), 5);
    }

    /** A spare that forgot a slot neither keeps nor answers what comes late for it. */
    private static void acceptBelowLow() {
        CheapVotes x = Due.led(2);
        x.crash(1, true);
        x.submit(0, 7);
        x.run(3);
        due.onWay("the 3rd tick", x, Due.mail(0, 1, 3, 8, 0, 7), Due.mail(0, 2, 3, 8, 0, 7));
        x.repeat(1);
        x.deliver(0);
        x.deliver(0);
        due.same("the spare has it", x.accepted(2, 0, 1), 7);
        x.tick();
        due.same("main 1 goes", x.accepted(0, 1, 1), -2);
        // All comes but the first on the way, which is late.
        for (int round = 0; round < 40; round++) {
            while (x.way() > 1) {
                x.deliver(1);
            }
            x.tick();
        }
        due.onWay("late", x, Due.mail(0, 2, 3, 8, 0, 7));
        due.same("LOW", x.about(2, 4), 5);
        due.same("keeps nothing", x.about(2, 5), 0);
        due.same("forgot", x.accepted(2, 0, 0), 0);
        due.same("forgot", x.accepted(2, 0, 1), 0);
        int came = x.about(2, 8);
        due.same("deliver", x.deliver(0), 3);
        due.same("came", x.about(2, 8), came + 1);
        due.same("no TAKEN", x.way(), 0);
        due.same("keeps nothing", x.about(2, 5), 0);
    }

    private static void takenByAll() {
        CheapVotes x = Due.led(3);
        x.submit(0, 5);
        x.deliver(0);
        x.repeat(1);
        x.deliver(1);
        x.deliver(1);
        due.same("main 1 twice is not enough", x.about(0, 0), 0);
        x.deliver(0);
        x.repeat(0);
        x.deliver(0);
        due.same("all MEMBERS took it", x.decided(0, 0), 5);
        due.onWay("DECIDED to the others", x, Due.mail(2, 0, 4, 8, 0, 0),
            Due.mail(0, 1, 5, 0, 0, 5), Due.mail(0, 2, 5, 0, 0, 5));
        x.deliver(0);
        due.same("decided only once", x.way(), 2);
    }

    private static void takenWithSpares() {
        CheapVotes x = new CheapVotes(5);
        for (int i = 2; i < 5; i++) {
            x.crash(i, true);
        }
        x.campaign(0);
        x.run(6);
        due.same("LEADING with spares", x.about(0, 1), 2);
        x.submit(0, 5);
        x.run(2);
        due.same("two of nine", x.about(0, 0), 0);
        x.tick();
        Due.deliverTo(x, 5, 3);
        Due.deliverTo(x, 6, 3);
        Due.deliverTo(x, 0, 4);
        Due.deliverTo(x, 0, 4);
        due.same("four of nine", x.about(0, 0), 0);
        Due.deliverTo(x, 7, 3);
        Due.deliverTo(x, 0, 4);
        due.same("five of nine", x.about(0, 0), 1);
    }

    private static void oldTakenDoesNotCount() {
        CheapVotes x = Due.led(2);
        x.submit(0, 5);
        x.deliver(0);
        due.onWay("TAKEN with 8", x, Due.mail(1, 0, 4, 8, 0, 0));
        x.campaign(0);
        x.deliver(1);
        x.deliver(1);
        due.onWay("and ACCEPT with 16", x, Due.mail(1, 0, 4, 8, 0, 0), Due.mail(0, 1, 3, 16, 0, 5));
        x.deliver(0);
        due.same("does not count", x.about(0, 0), 0);
        Due.deliverAll(x);
        due.same("decided", x.decided(0, 0), 5);
    }

    private static void decidedTwiceAndGap() {
        CheapVotes x = Due.led(2);
        x.submit(0, 5);
        x.submit(0, 6);
        for (int k = 0; k < 4; k++) {
            x.deliver(0);
        }
        due.onWay("two DECIDED", x, Due.mail(0, 1, 5, 0, 0, 5), Due.mail(0, 1, 5, 0, 1, 6));
        x.repeat(1);
        x.deliver(1);
        x.deliver(1);
        due.onWay("TOLD of a gap", x, Due.mail(0, 1, 5, 0, 0, 5), Due.mail(1, 0, 6, 0, 0, 0),
            Due.mail(1, 0, 6, 0, 0, 0));
        due.same("LOG", x.about(1, 7), 1);
        x.deliver(0);
        due.same("TOLD both", x.message(2, 4), 2);
    }

    private static void toldWhilePreparing() {
        CheapVotes x = Scenes.lateTold();
        x.campaign(0);
        due.same("TOLD comes", Due.deliverTo(x, 0, 6) ? 1 : 0, 1);
        due.same("PREPARING", x.about(0, 1), 1);
        Scenes.leadWithSpare(x);
        Due.loseAll(x);
        x.tick();
        due.same("only one that is LEADING keeps it", x.way(), 0);
    }

    private static void latestToldIsNotTheGreatest() {
        CheapVotes x = Due.led(2);
        x.submit(0, 5);
        x.submit(0, 6);
        Due.loseAll(x);
        Due.ticks(x, 3);
        while (Due.deliverTo(x, 1, 3) || Due.deliverTo(x, 0, 4) || Due.deliverTo(x, 1, 5)) {
            due.same("nothing is lost", x.lost(), 0);
        }
        while (x.message(0, 2) != 6) {
            x.lose(0);
        }
        due.onWay("TOLD 1 and 2", x, Due.mail(1, 0, 6, 0, 1, 0), Due.mail(1, 0, 6, 0, 2, 0));
        x.deliver(1);
        x.deliver(0);
        x.tick();
        due.onWay("k is 2", x, Due.mail(0, 2, 7, 0, 2, 0));
    }

    /** Main 2 goes by slot 1: with KNOWN 4 it is a MEMBER still, and its PROMISE is wanted. */
    private static void promisesAreForKnown() {
        for (int known = 4; known <= 5; known++) {
            CheapVotes x = Scenes.mainTwoIsGoing(known);
            due.same("KNOWN", x.about(0, 0), known);
            x.campaign(0);
            Due.deliverTo(x, 1, 1);
            Due.deliverTo(x, 0, 2);
            due.same("mains 0 and 1 promised", x.about(0, 1), known == 4 ? 1 : 2);
        }
    }

    /** What is told makes mains 0 and 1 a QUORUM for KNOWN, but LEADING it is by a PROMISE. */
    private static void preparingTillAPromiseComes() {
        CheapVotes x = Scenes.mainOneHearsNothing();
        x.campaign(1);
        Due.deliverTo(x, 0, 1);
        x.repeat(x.way() - 1);
        due.deliverFrom(x, 0, 1, 2);
        due.same("mains 0 and 1 of three", x.about(1, 1), 1);
        due.same("waits", x.submit(1, 50), 1);
        for (int s = 0; s < 5; s++) {
            due.deliverSlot(x, 1, 5, s);
        }
        due.same("MEMBERS for 5", x.members(1, 5), 3);
        due.same("still PREPARING", x.about(1, 1), 1);
        due.same("so 50 waits", x.about(1, 6), 1);
        due.deliverFrom(x, 0, 1, 2);
        due.same("LEADING", x.about(1, 1), 2);
        due.same("50 for slot 5", x.accepted(1, 5, 1), 50);
        due.same("nothing waits", x.about(1, 6), 0);
    }

    /** Main 2 goes by slot 1, and KNOWN is 2: it is wanted for slot 4 and not for slot 5. */
    private static void takenByMembersForItsSlot() {
        CheapVotes x = Scenes.mainTwoIsGoing(2);
        for (int k = 0; k < 4; k++) {
            x.submit(0, 22 + k);
        }
        for (int s = 4; s <= 5; s++) {
            due.deliverSlot(x, 1, 3, s);
            due.deliverSlot(x, 0, 4, s);
        }
        due.refused("mains 0 and 1 of three", Due.INDEX, () -> x.decided(0, 4));
        due.same("mains 0 and 1 of two", x.decided(0, 5), 25);
        due.same("KNOWN", x.about(0, 0), 2);
        due.same("DECIDED to main 1", Scenes.countTo(x, 1, 5), 1);
        due.same("and to main 2, which is no MEMBER for 5", Scenes.countTo(x, 2, 5), 1);
    }

    /** REFUSED 9 comes to a main that has 16 meanwhile. */
    private static void refusedIsNothing() {
        CheapVotes x = new CheapVotes(2);
        x.campaign(0);
        x.campaign(1);
        x.deliver(0);
        due.same("campaign", x.campaign(0), 16);
        due.onWay("REFUSED", x, Due.mail(1, 0, 1, 9, 0, 0), Due.mail(1, 0, 8, 9, 0, 0),
            Due.mail(0, 1, 1, 16, 0, 0));
        int came = x.about(0, 8);
        due.same("deliver", x.deliver(1), 8);
        due.same("it came", x.about(0, 8), came + 1);
        due.same("ROLE", x.about(0, 1), 1);
        due.same("BALLOT", x.about(0, 2), 16);
        due.same("PROMISED", x.about(0, 3), 16);
        due.same("nothing goes", x.way(), 2);
        x.deliver(1);
        Due.deliverTo(x, 0, 2);
        due.same("its promises still count", x.about(0, 1), 2);
    }
}
