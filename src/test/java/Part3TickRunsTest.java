/** Part 3, A TICK: what it does in ordinary runs. */
final class Part3TickRunsTest {
    private static final Due due = new Due();

    public static void main(String[] args) {
        idleNodesDoNothing();
        prepareAtEachThird();
        prepareWithKnownAsItIsNow();
        promisedWhateverItsLow();
        mainsByNumbers();
        leadingWantsPromises();
        fullWindowWantsNothing();
        acceptAtEachThird();
        decidedBehindAGap();
        acceptToMembersForItsSlot();
        silentMainWaitsToGo();
        goingStandsBeforeAllElse();
        goingOnlyOnce();
        goingInTheLogDoesNotWait();
        laterGoingStandsBeforeWhatWaits();
        noMemberTakesNobodyOut();
        nothingFillsBehindGoing();
        nothingOnlyWhenNothingElse();
        goingLearntInAnotherOrder();
        forgetGoesToAskedSpares();
        askedByPrepareAlone();
        forgetOnlyWhenAbove();
        forgetByWhatMembersTold();
        forgetBeforeWhatGoesOn();
        due.end("Part3TickRunsTest");
    }

    private static void idleNodesDoNothing() {
        CheapVotes x = new CheapVotes(5);
        x.submit(1, 5);
        Due.ticks(x, 20);
        due.same("way", x.way(), 0);
        due.same("still waits", x.about(1, 6), 1);

        CheapVotes led = Due.led(3);
        Due.ticks(led, 20);
        due.same("LEADING without work", led.way(), 0);

        CheapVotes y = new CheapVotes(2);
        y.campaign(0);
        Due.loseAll(y);
        Due.ticks(y, 2);
        y.crash(0, true);
        Due.ticks(y, 5);
        due.same("crashed", y.way(), 0);
    }

    private static void prepareAtEachThird() {
        CheapVotes x = new CheapVotes(3);
        x.campaign(1);
        Due.loseAll(x);
        for (int k = 1; k <= 9; k++) {
            x.tick();
            if (k % 3 == 0) {
                due.onWay("tick " + k, x, Due.mail(1, 0, 1, 9, 0, 0), Due.mail(1, 2, 1, 9, 0, 0),
                    Due.mail(1, 3, 1, 9, 0, 0), Due.mail(1, 4, 1, 9, 0, 0));
                Due.loseAll(x);
            } else {
                due.same("tick " + k, x.way(), 0);
            }
        }
        // The count begins anew with each BALLOT.
        x.tick();
        x.campaign(1);
        Due.loseAll(x);
        Due.ticks(x, 2);
        due.same("2nd", x.way(), 0);
        x.tick();
        due.same("3rd", x.way(), 4);
        due.same("BALLOT", x.message(0, 3), 17);
        Due.deliverTo(x, 3, 1);
        Due.deliverTo(x, 1, 2);
        Due.loseAll(x);
        Due.ticks(x, 3);
        due.onWay("but to those that promised", x, Due.mail(1, 0, 1, 17, 0, 0),
            Due.mail(1, 2, 1, 17, 0, 0), Due.mail(1, 4, 1, 17, 0, 0));
    }

    private static void prepareWithKnownAsItIsNow() {
        CheapVotes x = Due.led(3);
        x.submit(0, 5);
        for (int k = 0; k < 4; k++) {
            x.deliver(0);
        }
        // Main 1 prepares with KNOWN 0, and hears of slot 0 then.
        x.campaign(1);
        due.same("at first", x.message(2, 4), 0);
        Due.deliverTo(x, 1, 5);
        due.same("KNOWN", x.about(1, 0), 1);
        Due.loseAll(x);
        Due.ticks(x, 3);
        due.onWay("now", x, Due.mail(1, 0, 1, 9, 1, 0), Due.mail(1, 2, 1, 9, 1, 0),
            Due.mail(1, 3, 1, 9, 1, 0), Due.mail(1, 4, 1, 9, 1, 0));
    }

    /** Promised: 0, 1 and spare 3. Without main 1 these are no QUORUM, so 2 and 4 are asked. */
    private static void leadingWantsPromises() {
        CheapVotes x = new CheapVotes(3);
        x.crash(2, true);
        x.campaign(0);
        x.run(3);
        due.same("to spare 4", x.message(2, 1), 4);
        x.lose(2);
        x.run(2);
        due.same("LEADING by 0, 1 and 3", x.about(0, 1), 2);
        x.crash(1, true);
        x.crash(2, false);
        x.submit(0, 7);
        int wanted = 0;
        for (int round = 6; round <= 60 && wanted == 0; round++) {
            x.run(1);
            for (int i = 0; i < x.way(); i++) {
                if (x.message(i, 2) == 1) {
                    wanted = round;
                }
            }
        }
        due.same("main 1 goes by slot 1", x.decided(0, 1), -2);
        due.same("slot 5 is without it", x.members(0, 5), 5);
        due.same("slot 4 is PROPOSED, so slot 5 is the first", x.about(0, 0), 4);
        due.same("slot 4 is PROPOSED", x.accepted(0, 4, 0), 8);
        due.same("all its ticks count", wanted % 3, 0);
        int first = firstOfKind(x, 1);
        due.same("to main 2", x.message(first, 1), 2);
        due.same("to spare 4", x.message(first + 1, 1), 4);
        due.same("not to those that promised", firstOfKindBehind(x, 1, first + 1), -1);
        x.submit(0, 8);
        x.run(10);
        due.same("and goes on", lastDecided(x, 0), 8);
    }

    private static int firstOfKind(CheapVotes x, int kind) {
        return firstOfKindBehind(x, kind, -1);
    }

    private static int firstOfKindBehind(CheapVotes x, int kind, int from) {
        for (int i = from + 1; i < x.way(); i++) {
            if (x.message(i, 2) == kind) {
                return i;
            }
        }
        return -1;
    }

    private static int lastDecided(CheapVotes x, int node) {
        return x.decided(node, x.about(node, 0) - 1);
    }

    private static void fullWindowWantsNothing() {
        CheapVotes x = Due.led(2);
        for (int k = 1; k <= 4; k++) {
            x.submit(0, k);
        }
        Due.loseAll(x);
        Due.ticks(x, 3);
        due.same("two ACCEPTs for each slot", x.way(), 8);
        for (int i = 0; i < 8; i++) {
            due.same("ACCEPT", x.message(i, 2), 3);
        }
    }

    private static void acceptAtEachThird() {
        CheapVotes x = Due.led(3);
        x.submit(0, 5);
        x.tick();
        x.submit(0, 6);
        Due.deliverTo(x, 1, 3);
        Due.deliverTo(x, 0, 4);
        Due.loseAll(x);
        x.tick();
        due.same("2nd", x.way(), 0);
        x.tick();
        due.onWay("3rd of slot 0: but to those that took it", x, Due.mail(0, 2, 3, 8, 0, 5),
            Due.mail(0, 3, 3, 8, 0, 5), Due.mail(0, 4, 3, 8, 0, 5));
        Due.deliverTo(x, 4, 3);
        Due.deliverTo(x, 0, 4);
        due.same("three of five", x.decided(0, 0), 5);
        Due.loseAll(x);
        x.tick();
        due.onWay("3rd of slot 1", x, Due.mail(0, 1, 3, 8, 1, 6), Due.mail(0, 2, 3, 8, 1, 6),
            Due.mail(0, 3, 3, 8, 1, 6), Due.mail(0, 4, 3, 8, 1, 6));
        Due.loseAll(x);
        Due.ticks(x, 2);
        due.same("what was decided counts no more", firstOfKind(x, 1), -1);
        Due.loseAll(x);
        x.tick();
        due.same("6th of slot 1", x.message(0, 4), 1);
        due.same("6th of slot 1", x.message(3, 4), 1);
    }

    private static void silentMainWaitsToGo() {
        CheapVotes x = Due.led(3);
        x.submit(0, 5);
        Due.deliverTo(x, 1, 3);
        Due.deliverTo(x, 0, 4);
        Due.loseAll(x);
        Due.ticks(x, 3);
        Due.loseAll(x);
        x.tick();
        due.onWay("at the 4th main 2 goes, main 1 does not", x, Due.mail(0, 1, 3, 8, 1, -3),
            Due.mail(0, 2, 3, 8, 1, -3));
        due.same("PROPOSED at once", x.about(0, 6), 0);
        due.same("ACCEPTED", x.accepted(0, 1, 1), -3);

        // By numbers, and only at the 4th.
        CheapVotes y = Due.led(4);
        y.submit(0, 5);
        Due.ticks(y, 4);
        due.same("main 1", y.accepted(0, 1, 1), -2);
        due.same("main 2", y.accepted(0, 2, 1), -3);
        due.same("main 3", y.accepted(0, 3, 1), -4);
        due.same("nothing waits", y.about(0, 6), 0);
    }

    private static void goingStandsBeforeAllElse() {
        CheapVotes x = Due.led(3);
        for (int k = 1; k <= 6; k++) {
            x.submit(0, k);
        }
        due.same("two wait", x.about(0, 6), 2);
        Due.loseAll(x);
        Due.ticks(x, 4);
        due.same("and two that go", x.about(0, 6), 4);
        for (int k = 5; k <= 20; k++) {
            due.same("submit", x.submit(0, 95 + k), k);
        }
        due.refused("20 wait", Due.STATE, () -> x.submit(0, 999));
        Due.loseAll(x);
        Due.ticks(x, 2);
        Due.deliverAll(x);
        due.same("then goes main 1", x.decided(0, 4), -2);
        due.same("then goes main 2", x.decided(0, 5), -3);
        due.same("then what was submitted", x.decided(0, 6), 5);
        due.same("in order", x.decided(0, 7), 6);
        due.same("in order", x.decided(0, 8), 100);
    }

    private static void goingOnlyOnce() {
        CheapVotes x = Due.led(3);
        x.submit(0, 1);
        x.tick();
        x.submit(0, 2);
        x.tick();
        x.submit(0, 3);
        x.tick();
        x.submit(0, 4);
        Due.loseAll(x);
        x.tick();
        due.same("4th of slot 0", x.about(0, 6), 2);
        Due.ticks(x, 3);
        due.same("they wait already", x.about(0, 6), 2);

        CheapVotes y = Due.led(3);
        y.submit(0, 1);
        y.tick();
        y.submit(0, 2);
        Due.ticks(y, 3);
        due.same("PROPOSED", y.accepted(0, 2, 1), -2);
        due.same("PROPOSED", y.accepted(0, 3, 1), -3);
        y.tick();
        due.same("4th of slot 1", y.about(0, 6), 0);

        // Slots 2 .. 4 fill behind the one by which main 2 goes: nobody goes twice.
        CheapVotes z = Due.led(3);
        z.crash(2, true);
        z.submit(0, 1);
        z.run(50);
        int going = 0;
        for (int s = 0; s < z.about(0, 0); s++) {
            going += z.decided(0, s) < 0 ? 1 : 0;
        }
        due.same("in its LOG", going, 1);
    }

    /** Main 1 leads, and its LOG has slots 1 and 2, by which mains 2 and 3 go, but not slot 0. */
    private static void goingInTheLogDoesNotWait() {
        CheapVotes x = Due.led(4);
        x.crash(2, true);
        x.crash(3, true);
        x.submit(0, 7);
        x.run(4);
        while (x.about(0, 7) < 3) {
            if (!Due.deliverTo(x, 1, 3) && !Due.deliverTo(x, 4, 3) && !Due.deliverTo(x, 5, 3)
                    && !Due.deliverTo(x, 0, 4)) {
                x.tick();
            }
        }
        Due.loseAll(x);
        due.same("main 1 knows nothing", x.about(1, 7), 0);
        x.campaign(1);
        Due.deliverTo(x, 0, 1);
        due.same("slot 0 is lost", x.message(2, 4), 0);
        x.lose(2);
        Due.deliverAll(x);
        due.same("gap", x.about(1, 0), 0);
        due.same("slot 1", x.decided(1, 1), -3);
        due.same("slot 2", x.decided(1, 2), -4);
        Due.ticks(x, 3);
        for (int spare = 4; spare <= 5; spare++) {
            Due.deliverTo(x, spare, 1);
            Due.deliverTo(x, 1, 2);
        }
        due.same("LEADING", x.about(1, 1), 2);
        due.same("slot 0 anew", x.accepted(1, 0, 0), 9);
        Due.deliverTo(x, 0, 3);
        Due.deliverTo(x, 1, 4);
        Due.loseAll(x);
        Due.ticks(x, 4);
        due.same("slot 0 is open", x.about(1, 0), 0);
        due.same("nobody waits to go again", x.about(1, 6), 0);
        due.same("nor is PROPOSED", x.accepted(1, 3, 0), 0);
    }

    private static void laterGoingStandsBeforeWhatWaits() {
        CheapVotes x = Due.led(4);
        x.submit(0, 1);
        Due.deliverTo(x, 1, 3);
        Due.deliverTo(x, 2, 3);
        Due.deliverTo(x, 0, 4);
        Due.deliverTo(x, 0, 4);
        Due.loseAll(x);
        Due.ticks(x, 4);
        due.same("main 3 goes", x.accepted(0, 1, 1), -4);
        int[] waits = {0, 0, 1, 2};
        for (int k = 0; k < 4; k++) {
            due.same("submit", x.submit(0, 21 + k), waits[k]);
        }
        Due.deliverTo(x, 1, 3);
        Due.deliverTo(x, 0, 4);
        Due.loseAll(x);
        Due.ticks(x, 4);
        due.same("main 1 and 2 wait to go", x.about(0, 6), 4);
        Due.ticks(x, 1);
        Due.deliverAll(x);
        due.same("main 2 goes first, as main 1 took slot 1", x.decided(0, 4), -3);
        due.same("then main 1, by slot 2", x.decided(0, 5), -2);
        due.same("then what was submitted", x.decided(0, 6), 23);
    }

    /** Main 1 leads and PROPOSES that it goes itself; it takes out nobody then. */
    private static void noMemberTakesNobodyOut() {
        CheapVotes x = Due.led(3);
        x.crash(1, true);
        x.submit(0, 7);
        x.run(4);
        due.same("PROPOSED: main 1 goes", x.accepted(0, 1, 1), -2);
        x.crash(1, false);
        Due.loseAll(x);
        x.campaign(1);
        Due.deliverTo(x, 0, 1);
        Due.deliverTo(x, 2, 1);
        Due.deliverTo(x, 1, 2);
        Due.deliverTo(x, 1, 2);
        due.same("LEADING", x.about(1, 1), 2);
        due.same("it PROPOSES that it goes", x.accepted(1, 1, 1), -2);
        Due.deliverAll(x);
        due.same("slots 0 and 1", x.about(1, 0), 2);
        due.same("no MEMBER for KNOWN + 3", x.members(1, 5), 5);
        due.same("MEMBER for KNOWN", x.about(1, 1), 2);
        x.submit(1, 8);
        Due.loseAll(x);
        Due.ticks(x, 5);
        due.same("nobody waits to go", x.about(1, 6), 0);
        due.same("nor is PROPOSED", x.accepted(1, 3, 0), 0);
    }

    private static void nothingFillsBehindGoing() {
        CheapVotes x = Due.led(3);
        x.crash(2, true);
        x.submit(0, 7);
        x.run(50);
        int[] row = {7, -3, 0, 0, 0};
        due.same("KNOWN is r + 4", x.about(0, 0), row.length);
        for (int s = 0; s < row.length; s++) {
            due.same("slot " + s, x.decided(0, s), row[s]);
            due.same("slot " + s + " at main 1", x.decided(1, s), row[s]);
        }
        due.same("no more", x.run(50), 0);
        due.same("KNOWN", x.about(0, 0), row.length);
        due.same("nothing waits", x.about(0, 6), 0);
    }

    private static void nothingOnlyWhenNothingElse() {
        CheapVotes x = Due.led(2);
        x.crash(1, true);
        x.submit(0, 7);
        x.run(8);
        Due.deliverAll(x);
        due.same("main 1 goes by slot 1", x.decided(0, 1), -2);
        due.same("KNOWN", x.about(0, 0), 2);
        // Something is PROPOSED and not decided: no 0.
        x.submit(0, 8);
        Due.loseAll(x);
        Due.ticks(x, 2);
        due.same("slot 2", x.accepted(0, 2, 1), 8);
        due.same("slot 3", x.accepted(0, 3, 0), 0);
        due.same("nothing waits", x.about(0, 6), 0);
        x.tick();
        Due.deliverAll(x);
        due.same("slot 2 is decided", x.decided(0, 2), 8);
        x.tick();
        due.same("slot 3 is filled", x.accepted(0, 3, 0), 8);
        due.same("slot 3 is filled", x.accepted(0, 3, 1), 0);
        due.onWay("to both MEMBERS", x, Due.mail(0, 1, 3, 8, 3, 0));
    }

    /** The latest one that goes is that of the last slot, not the one learnt last. */
    private static void goingLearntInAnotherOrder() {
        CheapVotes x = Due.led(4);
        x.crash(2, true);
        x.crash(3, true);
        x.submit(0, 7);
        x.run(4);
        due.same("slot 1", x.accepted(0, 1, 1), -3);
        due.same("slot 2", x.accepted(0, 2, 1), -4);
        while (x.about(0, 7) == 0) {
            if (!deliverOfSlot(x, 2)) {
                x.tick();
            }
        }
        due.same("slot 2 first", x.decided(0, 2), -4);
        for (int k = 0; k < 50; k++) {
            Due.deliverAll(x);
            x.tick();
        }
        due.same("KNOWN is 2 + 4", x.about(0, 0), 6);
        due.same("MEMBERS", x.members(0, 6), 3);
    }

    /** Delivers the first ACCEPT or TAKEN of a slot. */
    private static boolean deliverOfSlot(CheapVotes x, int slot) {
        for (int i = 0; i < x.way(); i++) {
            int kind = x.message(i, 2);
            if ((kind == 3 || kind == 4) && x.message(i, 4) == slot) {
                x.deliver(i);
                return true;
            }
        }
        return false;
    }

    private static void forgetGoesToAskedSpares() {
        CheapVotes x = Due.led(3);
        x.submit(0, 5);
        Due.deliverAll(x);
        x.tick();
        due.same("no spare was asked", x.way(), 0);
        x.submit(0, 6);
        Due.deliverTo(x, 1, 3);
        Due.deliverTo(x, 0, 4);
        Due.loseAll(x);
        Due.ticks(x, 3);
        Due.deliverAll(x);
        due.same("spares were asked", x.accepted(3, 1, 1), 6);
        due.same("KNOWN", x.about(0, 0), 2);
        x.tick();
        due.onWay("FORGET", x, Due.mail(0, 3, 7, 0, 2, 0), Due.mail(0, 4, 7, 0, 2, 0));
        due.same("deliver", x.deliver(0), 7);
        due.same("LOW", x.about(3, 4), 2);
        due.same("gone", x.accepted(3, 1, 0), 0);
        due.same("gone", x.about(3, 5), 0);
        due.same("not yet", x.about(4, 4), 0);
        due.same("not yet", x.about(4, 5), 1);
        due.same("mains keep theirs", x.about(0, 5), 2);
        due.same("mains keep theirs", x.about(0, 4), 0);
    }

    private static void askedByPrepareAlone() {
        CheapVotes x = new CheapVotes(2);
        x.campaign(0);
        Due.loseAll(x);
        Scenes.leadWithSpare(x);
        Due.loseAll(x);
        x.submit(0, 5);
        Due.deliverAll(x);
        due.same("all MEMBERS took it", x.decided(1, 0), 5);
        x.tick();
        due.onWay("FORGET", x, Due.mail(0, 2, 7, 0, 1, 0));
    }

    private static void forgetOnlyWhenAbove() {
        CheapVotes x = Due.led(2);
        x.submit(0, 5);
        Due.loseAll(x);
        Due.ticks(x, 3);
        Due.deliverAll(x);
        x.tick();
        due.onWay("k is 1", x, Due.mail(0, 2, 7, 0, 1, 0));
        Due.loseAll(x);
        x.tick();
        due.same("not above the k before", x.way(), 0);
        x.submit(0, 6);
        Due.deliverAll(x);
        x.tick();
        due.onWay("k is 2, though the spare was not asked for slot 1", x,
            Due.mail(0, 2, 7, 0, 2, 0));
        x.repeat(0);
        x.deliver(0);
        due.same("LOW", x.about(2, 4), 2);
        x.submit(0, 7);
        Due.loseAll(x);
        Due.ticks(x, 3);
        Due.deliverAll(x);
        due.same("ACCEPTED above LOW", x.about(2, 5), 1);
        x.tick();
        x.repeat(0);
        Due.deliverAll(x);
        due.same("LOW", x.about(2, 4), 3);

        // An old FORGET does not bring LOW back.
        CheapVotes y = Due.led(2);
        y.submit(0, 5);
        Due.loseAll(y);
        Due.ticks(y, 3);
        Due.deliverAll(y);
        y.tick();
        y.submit(0, 6);
        while (y.way() > 1) {
            y.deliver(1);
        }
        y.tick();
        due.onWay("FORGET 1 and 2", y, Due.mail(0, 2, 7, 0, 1, 0), Due.mail(0, 2, 7, 0, 2, 0));
        y.deliver(1);
        y.deliver(0);
        due.same("LOW", y.about(2, 4), 2);
    }

    private static void forgetByWhatMembersTold() {
        CheapVotes x = Due.led(3);
        x.submit(0, 5);
        x.submit(0, 6);
        Due.loseAll(x);
        Due.ticks(x, 3);
        while (Due.deliverTo(x, 1, 3) || Due.deliverTo(x, 2, 3) || Due.deliverTo(x, 0, 4)) {
            due.same("not told yet", x.lost(), 0);
        }
        due.same("KNOWN", x.about(0, 0), 2);
        // Main 1 hears of both, main 2 of slot 0 alone.
        Due.deliverTo(x, 1, 5);
        Due.deliverTo(x, 1, 5);
        Due.deliverTo(x, 0, 6);
        Due.deliverTo(x, 0, 6);
        int before = x.way();
        x.tick();
        due.same("main 2 told nothing: k is 0", x.way(), before);
        Due.deliverTo(x, 2, 5);
        Due.deliverTo(x, 0, 6);
        Due.loseAll(x);
        x.tick();
        due.onWay("k is 1", x, Due.mail(0, 3, 7, 0, 1, 0), Due.mail(0, 4, 7, 0, 1, 0));
    }

    /** Slot 1 is decided and slot 0 is not: only slot 0 counts. */
    private static void decidedBehindAGap() {
        CheapVotes x = Due.led(2);
        x.submit(0, 5);
        x.submit(0, 6);
        due.deliverSlot(x, 1, 3, 1);
        due.deliverSlot(x, 0, 4, 1);
        due.same("slot 1", x.decided(0, 1), 6);
        Due.loseAll(x);
        Due.ticks(x, 3);
        due.onWay("slot 0 alone", x, Due.mail(0, 1, 3, 8, 0, 5), Due.mail(0, 2, 3, 8, 0, 5));
    }

    /** Main 2 goes by slot 1, and KNOWN is 2: it is asked again for slot 4 and not for slot 5. */
    private static void acceptToMembersForItsSlot() {
        CheapVotes x = Scenes.mainTwoIsGoing(2);
        for (int k = 0; k < 4; k++) {
            x.submit(0, 22 + k);
        }
        Due.loseAll(x);
        Due.ticks(x, 3);
        int i = 0;
        for (int s = 2; s <= 5; s++) {
            for (int to = 1; to <= 4; to++) {
                if (s == 5 && to == 2) {
                    continue;
                }
                int[] row = Due.mail(0, to, 3, 8, s, 20 + s);
                for (int k = 0; k < 6; k++) {
                    due.same("slot " + s + " to " + to + ", " + k, x.message(i, k), row[k]);
                }
                i++;
            }
        }
        due.same("and no more", x.way(), i);
    }

    /** The spare's LOW is 5, and main 1 knows nothing: it promised all the same. */
    private static void promisedWhateverItsLow() {
        CheapVotes x = Scenes.mainOneIsOut();
        x.crash(1, false);
        x.campaign(1);
        Due.loseAll(x);
        Due.ticks(x, 3);
        due.onWay("to both", x, Due.mail(1, 0, 1, 9, 0, 0), Due.mail(1, 2, 1, 9, 0, 0));
        x.deliver(1);
        due.onWay("LOW 5", x, Due.mail(1, 0, 1, 9, 0, 0), Due.mail(2, 1, 2, 9, 5, 0));
        x.deliver(1);
        due.same("that is no QUORUM", x.about(1, 1), 1);
        Due.loseAll(x);
        Due.ticks(x, 3);
        due.onWay("but to those that promised", x, Due.mail(1, 0, 1, 9, 0, 0));
    }

    /** Whoever campaigned first. */
    private static void mainsByNumbers() {
        CheapVotes x = new CheapVotes(2);
        x.campaign(1);
        x.campaign(0);
        Due.loseAll(x);
        Due.ticks(x, 3);
        due.onWay("main 0, then main 1", x, Due.mail(0, 1, 1, 8, 0, 0), Due.mail(0, 2, 1, 8, 0, 0),
            Due.mail(1, 0, 1, 9, 0, 0), Due.mail(1, 2, 1, 9, 0, 0));
    }

    /** At the 4th tick of slot 1 main 1 waits to go; slot 0 is known to both since the 3rd. */
    private static void forgetBeforeWhatGoesOn() {
        CheapVotes x = Due.led(2);
        x.submit(0, 5);
        x.submit(0, 6);
        Due.ticks(x, 3);
        due.deliverSlot(x, 1, 3, 0);
        due.deliverSlot(x, 0, 4, 0);
        due.deliverSlot(x, 1, 5, 0);
        due.deliverSlot(x, 0, 6, 1);
        Due.loseAll(x);
        x.tick();
        due.onWay("FORGET, then ACCEPT", x, Due.mail(0, 2, 7, 0, 1, 0),
            Due.mail(0, 1, 3, 8, 2, -2));
    }
}
