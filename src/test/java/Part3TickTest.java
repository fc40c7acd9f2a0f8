/** Part 3, A TICK: the 3rd, 6th, .. and the 4th, "0 at first", "0 for none" and their like. */
final class Part3TickTest {
    private static final Due due = new Due();

    public static void main(String[] args) {
        prepareAtEachThird();
        prepareToThoseOfKnownNow();
        leadingAllItsTicksCount();
        acceptAtEachThirdOfItsSlot();
        silentOnesWaitAtTheFourth();
        notThatWhichTookIt();
        neitherWaitsNorIsProposed();
        memberForKnownAndThree();
        nothingTillFourBehind();
        nothingOnlyIfNothingWaits();
        nothingWaitsBehindTheLastSlot();
        forgetFromOneOn();
        noneToldIsZero();
        aloneKIsKnown();
        onlySparesThatWereAsked();
        whatIsLostWent();
        forgetThatIsLostIsNotSentAgain();
        onlyMainsThatAreNotCrashed();
        due.end("Part3TickTest");
    }

    private static void prepareAtEachThird() {
        CheapVotes x = new CheapVotes(2);
        x.campaign(0);
        for (int k = 1; k <= 30; k++) {
            Due.loseAll(x);
            x.tick();
            due.same("tick " + k, x.way(), k % 3 == 0 ? 2 : 0);
        }
    }

    /** Main 1 prepares with KNOWN 0 for three mains; when it knows five slots, main 2 is out. */
    private static void prepareToThoseOfKnownNow() {
        CheapVotes x = Scenes.mainOneHearsNothing();
        due.same("campaign", x.campaign(1), 9);
        due.onWay("MEMBERS for 0", x, Due.mail(1, 0, 1, 9, 0, 0), Due.mail(1, 2, 1, 9, 0, 0));
        x.deliver(0);
        for (int known = 1; known <= 5; known++) {
            Due.deliverTo(x, 1, 5);
            due.same("KNOWN", x.about(1, 0), known);
            while (Scenes.count(x, 5) < x.way()) {
                loseAllButDecided(x);
            }
            Due.ticks(x, 3);
            int members = known < 5 ? 2 : 1;
            due.same("PREPAREs", Scenes.count(x, 1), members + 2);
            due.same("to main 2", Scenes.countTo(x, 2, 1), members - 1);
            due.same("with KNOWN", x.message(x.way() - 1, 4), known);
            due.same("spares behind mains", x.message(x.way() - 1, 1), 4);
        }
    }

    private static void loseAllButDecided(CheapVotes x) {
        for (int i = x.way() - 1; i >= 0; i--) {
            if (x.message(i, 2) != 5) {
                x.lose(i);
            }
        }
    }

    /**
     * Main 0 of 3 is LEADING by 0, 1 and 3 some ticks behind its 3rd one, and idle for some more.
     * Main 1 goes by slot 1; the first slot that is free, 5, wants promises then. PREPARE goes at
     * each 3rd tick from the campaign on.
     */
    private static void leadingAllItsTicksCount() {
        int both = 0;
        for (int late = 0; late < 3; late++) {
            for (int idle = 0; idle < 3; idle++) {
                CheapVotes x = new CheapVotes(3);
                x.crash(2, true);
                x.campaign(0);
                Due.ticks(x, 3);
                Due.deliverTo(x, 1, 1);
                Due.deliverTo(x, 3, 1);
                Due.ticks(x, late);
                Due.deliverTo(x, 0, 2);
                due.same("PREPARING", x.about(0, 1), 1);
                Due.deliverTo(x, 0, 2);
                due.same("LEADING", x.about(0, 1), 2);
                Due.loseAll(x);
                Due.ticks(x, idle);
                due.same("it wants nothing yet", x.way(), 0);
                x.crash(1, true);
                x.submit(0, 7);
                int ticks = 3 + late + idle + ticksTillSlotFourIsProposed(x);
                due.same("the free slot's MEMBERS", x.members(0, 5), 5);
                for (int k = 0; k < 7; k++) {
                    Due.loseAll(x);
                    x.tick();
                    ticks++;
                    int n = Scenes.count(x, 1);
                    String what = "tick " + ticks + " with " + late + " and " + idle;
                    due.same(what, n, ticks % 3 == 0 ? 2 : 0);
                    due.same("to main 2", Scenes.countTo(x, 2, 1), n / 2);
                    due.same("to spare 4", Scenes.countTo(x, 4, 1), n / 2);
                    if (n > 0 && Scenes.count(x, 3) > 0) {
                        both++;
                        due.same("PREPAREs stand before ACCEPTs", x.message(1, 2), 1);
                    }
                }
            }
        }
        due.same("PREPAREs and ACCEPTs at one tick", Math.min(both, 1), 1);
    }

    private static int ticksTillSlotFourIsProposed(CheapVotes x) {
        int ticks = 0;
        for (; ticks < 60 && x.accepted(0, 4, 0) == 0; ticks++) {
            if (ticks >= 4) {
                Due.deliverAll(x);
            }
            x.tick();
        }
        due.same("slot 4 is PROPOSED", x.accepted(0, 4, 0), 8);
        due.same("main 1 goes by slot 1", x.decided(0, 1), -2);
        return ticks;
    }

    /** Slot 0 is PROPOSED before the 1st tick, slot 1 before the 2nd, slot 2 before the 3rd. */
    private static void acceptAtEachThirdOfItsSlot() {
        CheapVotes x = Due.led(2);
        // The window is full at the 4th tick, so that main 1 only waits to go.
        for (int k = 1; k <= 12; k++) {
            if (k <= 4) {
                x.submit(0, k);
            }
            Due.loseAll(x);
            x.tick();
            for (int s = 0; s < 4; s++) {
                int count = k - s;
                int n = count > 0 && count % 3 == 0 ? 1 : 0;
                due.same("slot " + s + " at tick " + k + " to main 1", countAccepts(x, 1, s), n);
                due.same("slot " + s + " at tick " + k + " to the spare", countAccepts(x, 2, s), n);
            }
        }
    }

    private static int countAccepts(CheapVotes x, int to, int slot) {
        int n = 0;
        for (int i = 0; i < x.way(); i++) {
            if (x.message(i, 1) == to && x.message(i, 2) == 3 && x.message(i, 4) == slot) {
                n++;
            }
        }
        return n;
    }

    /** Four are PROPOSED, so that what waits to go is seen to wait. */
    private static CheapVotes fullWindow(int mains) {
        CheapVotes x = Due.led(mains);
        for (int k = 1; k <= 4; k++) {
            x.submit(0, k);
        }
        return x;
    }

    private static void silentOnesWaitAtTheFourth() {
        for (int mains = 2; mains <= 5; mains++) {
            CheapVotes x = fullWindow(mains);
            for (int k = 1; k <= 12; k++) {
                Due.loseAll(x);
                x.tick();
                due.same("tick " + k, x.about(0, 6), k < 4 ? 0 : mains - 1);
            }
        }
    }

    /** Mains 1 and 2 took slot 0, and only main 1 took slots 1 .. 3: main 2 and 3 wait to go. */
    private static void notThatWhichTookIt() {
        CheapVotes x = fullWindow(4);
        deliverAccept(x, 2, 0);
        for (int s = 0; s < 4; s++) {
            deliverAccept(x, 1, s);
        }
        Due.loseAll(x);
        Due.ticks(x, 4);
        due.same("mains 3 by slot 0, main 2 by slot 1", x.about(0, 6), 2);
        Due.ticks(x, 2);
        Due.deliverAll(x);
        due.same("slot 0's comes first", x.decided(0, 4), -4);
        due.same("then slot 1's", x.decided(0, 5), -3);
        due.same("and no other", x.about(0, 7), 6);
    }

    private static void deliverAccept(CheapVotes x, int to, int slot) {
        due.deliverSlot(x, to, 3, slot);
        Due.deliverTo(x, 0, 4);
    }

    /** The 4th tick of slot n comes one behind that of slot n - 1. */
    private static void neitherWaitsNorIsProposed() {
        CheapVotes x = Due.led(3);
        for (int k = 1; k <= 12; k++) {
            if (k <= 4) {
                x.submit(0, k);
            }
            Due.loseAll(x);
            x.tick();
            due.same("waits at tick " + k, x.about(0, 6), k < 4 ? 0 : 2);
        }
        CheapVotes y = Due.led(3);
        y.submit(0, 1);
        y.tick();
        y.submit(0, 2);
        Due.ticks(y, 3);
        due.same("PROPOSED at the 4th", y.accepted(0, 2, 1), -2);
        due.same("PROPOSED at the 4th", y.accepted(0, 3, 1), -3);
        for (int k = 0; k < 8; k++) {
            Due.loseAll(y);
            y.tick();
            due.same("nobody waits to go again", y.about(0, 6), 0);
        }
    }

    /**
     * Main 1 leads and PROPOSES by slot 1 that it goes itself. While it knows slot 0 alone, it is a
     * MEMBER for KNOWN + 3 and takes out who is silent; when it knows slot 1, it takes out nobody.
     */
    private static void memberForKnownAndThree() {
        for (int known = 1; known <= 2; known++) {
            CheapVotes x = Due.led(3);
            x.crash(1, true);
            x.submit(0, 7);
            x.run(4);
            due.same("PROPOSED: main 1 goes", x.accepted(0, 1, 1), -2);
            x.crash(1, false);
            Due.loseAll(x);
            x.campaign(1);
            Due.deliverTo(x, 0, 1);
            Due.deliverTo(x, 2, 1);
            while (Scenes.countTo(x, 1, 2) > 0) {
                Due.deliverTo(x, 1, 2);
            }
            due.same("LEADING", x.about(1, 1), 2);
            for (int s = 0; s < known; s++) {
                takeByAll(x, s);
            }
            due.same("KNOWN", x.about(1, 0), known);
            due.same("MEMBERS for KNOWN + 3", x.members(1, known + 3), known == 1 ? 7 : 5);
            x.submit(1, 8);
            Due.loseAll(x);
            Due.ticks(x, 4);
            boolean goes = x.accepted(1, 3, 1) == -1 && x.accepted(1, 4, 1) == -3;
            due.same("takes out 0 and 2", goes ? 1 : 0, known == 1 ? 1 : 0);
            due.same("waits", x.about(1, 6), 0);
            due.same("slot 3", x.accepted(1, 3, 0), known == 1 ? 9 : 0);
        }
    }

    private static void takeByAll(CheapVotes x, int slot) {
        for (int i = x.way() - 1; i >= 0; i--) {
            if (x.message(i, 2) == 3 && x.message(i, 4) == slot) {
                x.deliver(i);
            }
        }
        while (Scenes.countTo(x, 1, 4) > 0) {
            Due.deliverTo(x, 1, 4);
        }
    }

    /** Main 2 goes by slot 1: a tick fills slots 2 .. 4, one by one, and not slot 5. */
    private static void nothingTillFourBehind() {
        for (int known = 2; known <= 5; known++) {
            CheapVotes x = Scenes.mainTwoIsGoing(known);
            due.same("KNOWN", x.about(0, 0), known);
            due.same("nothing is on the way", x.way(), 0);
            x.tick();
            due.same("slot " + known, x.accepted(0, known, 0), known < 5 ? 8 : 0);
            due.same("slot " + known, x.accepted(0, known, 1), 0);
            due.same("ACCEPTs", Scenes.count(x, 3), known < 5 ? 2 : 0);
            due.same("nothing waits", x.about(0, 6), 0);
            due.same("one at a time", x.accepted(0, known + 1, 0), 0);
            x.tick();
            due.same("not while it is open", x.accepted(0, known + 1, 0), 0);
        }
        CheapVotes never = Scenes.known(3, 2);
        Due.ticks(never, 6);
        due.same("without one that goes, none", never.way(), 0);
    }

    /**
     * Main 0 of 4 leads by 0, 1, 2 and 4. Mains 1, 2 and 3 go by slots 1, 2 and 3, so that slot 5
     * wants promises; slots 0 .. 4 are known.
     */
    private static CheapVotes slotFiveWantsPromises() {
        CheapVotes x = new CheapVotes(4);
        x.crash(3, true);
        x.campaign(0);
        Due.ticks(x, 3);
        int[] promised = {1, 2, 4};
        for (int node : promised) {
            Due.deliverTo(x, node, 1);
            Due.deliverTo(x, 0, 2);
        }
        due.same("LEADING", x.about(0, 1), 2);
        Due.loseAll(x);
        x.crash(1, true);
        x.crash(2, true);
        x.submit(0, 7);
        Due.ticks(x, 4);
        for (int k = 0; k < 60 && x.about(0, 0) < 5; k++) {
            while (x.way() > 0) {
                if (x.message(0, 2) == 1) {
                    x.lose(0);
                } else {
                    x.deliver(0);
                }
            }
            if (x.about(0, 0) < 5) {
                x.tick();
            }
        }
        due.same("KNOWN", x.about(0, 0), 5);
        due.same("the latest that goes", x.decided(0, 3), -4);
        due.same("MEMBERS for 5", x.members(0, 5), 13);
        due.same("nothing waits", x.about(0, 6), 0);
        return x;
    }

    /** KNOWN is 5, below 3 + 4, and all that is PROPOSED is in the LOG. */
    private static void nothingOnlyIfNothingWaits() {
        CheapVotes x = slotFiveWantsPromises();
        for (int k = 0; k < 6; k++) {
            x.tick();
            due.same("one 0 waits", x.about(0, 6), 1);
        }
        CheapVotes y = slotFiveWantsPromises();
        due.same("submit", y.submit(0, 50), 1);
        for (int k = 0; k < 6; k++) {
            y.tick();
            due.same("50 waits, and no 0", y.about(0, 6), 1);
        }
        Due.deliverTo(y, 5, 1);
        Due.deliverTo(y, 0, 2);
        due.same("0, 2, 4 and 5 are four of six", y.accepted(0, 5, 1), 50);
        due.same("no more waits", y.about(0, 6), 0);
    }

    /** Main 1 goes by slot 99: no slot is left for the 0, and it waits once. */
    private static void nothingWaitsBehindTheLastSlot() {
        CheapVotes x = Scenes.known(2, 98);
        x.crash(1, true);
        x.submit(0, 99);
        x.run(12);
        due.same("KNOWN", x.about(0, 0), 100);
        due.same("main 1 goes by the last slot", x.decided(0, 99), -2);
        due.same("MEMBERS for 102", x.members(0, 102), 3);
        due.same("MEMBERS for 103", x.members(0, 103), 1);
        due.same("0 waits", x.about(0, 6), 1);
        Due.ticks(x, 5);
        due.same("once", x.about(0, 6), 1);
        CheapVotes none = Scenes.known(2, 100);
        Due.ticks(none, 5);
        due.same("without one that goes, none waits", none.about(0, 6), 0);
    }

    /** The spare was asked for slot 0; mains 0 and 1 know so many slots. */
    private static CheapVotes spareWasAsked(int known) {
        CheapVotes x = Due.led(2);
        x.submit(0, 5);
        Due.loseAll(x);
        Due.ticks(x, 3);
        due.same("the spare is asked", Scenes.countTo(x, 2, 3), 1);
        if (known == 0) {
            Due.loseAll(x);
        }
        Due.deliverAll(x);
        for (int k = 1; k < known; k++) {
            x.submit(0, 5 + k);
            Due.deliverAll(x);
        }
        due.same("KNOWN", x.about(1, 0), known);
        return x;
    }

    private static void forgetFromOneOn() {
        for (int known = 0; known <= 3; known++) {
            CheapVotes x = spareWasAsked(known);
            x.tick();
            due.same("k " + known, Scenes.countTo(x, 2, 7), known > 0 ? 1 : 0);
            if (known > 0) {
                due.onWay("k", x, Due.mail(0, 2, 7, 0, known, 0));
                Due.loseAll(x);
                Due.ticks(x, 2);
                due.same("not above the k before", x.way(), 0);
                x.submit(0, 50);
                Due.deliverAll(x);
                x.tick();
                due.onWay("above it", x, Due.mail(0, 2, 7, 0, known + 1, 0));
            }
        }
    }

    /** One other main told nothing, so k is 0, whatever the other one told. */
    private static void noneToldIsZero() {
        int[][] mains = {{0, 1, 2}, {0, 2, 1}, {1, 0, 2}, {1, 2, 0}, {2, 0, 1}, {2, 1, 0}};
        for (int[] order : mains) {
            int leader = order[0];
            CheapVotes x = new CheapVotes(3);
            x.campaign(leader);
            Due.deliverAll(x);
            x.submit(leader, 5);
            Due.loseAll(x);
            Due.ticks(x, 3);
            for (int k = 1; k < 3; k++) {
                Due.deliverTo(x, order[k], 3);
                Due.deliverTo(x, leader, 4);
            }
            due.same("decided", x.decided(leader, 0), 5);
            Due.deliverTo(x, order[1], 5);
            Due.deliverTo(x, leader, 6);
            x.tick();
            due.same("k is 0", Scenes.count(x, 7), 0);
            Due.deliverTo(x, order[2], 5);
            x.tick();
            due.same("TOLD is on the way", Scenes.count(x, 7), 0);
            Due.deliverTo(x, leader, 6);
            x.tick();
            due.same("k is 1", Scenes.count(x, 7), 2);
        }
    }

    /** Main 1 goes by slot 1 and tells nothing: when it is out, k is KNOWN of main 0 alone. */
    private static void aloneKIsKnown() {
        CheapVotes x = Due.led(2);
        x.crash(1, true);
        x.submit(0, 7);
        for (int round = 0; round < 60 && x.about(0, 0) < 5; round++) {
            due.same("k is 0 with KNOWN " + x.about(0, 0), Scenes.count(x, 7), 0);
            x.run(1);
        }
        due.same("KNOWN", x.about(0, 0), 5);
        due.same("alone", x.members(0, 5), 1);
        due.same("FORGET", Scenes.countTo(x, 2, 7), 1);
        Due.loseAll(x);
        x.submit(0, 8);
        Due.loseAll(x);
        x.tick();
        due.onWay("k is KNOWN", x, Due.mail(0, 2, 7, 0, 6, 0));
    }

    private static void onlySparesThatWereAsked() {
        CheapVotes x = Scenes.known(2, 3);
        x.tick();
        due.same("none was asked", x.way(), 0);
        x.submit(0, 50);
        Due.loseAll(x);
        Due.ticks(x, 3);
        Due.deliverAll(x);
        x.tick();
        due.onWay("asked for slot 3", x, Due.mail(0, 2, 7, 0, 4, 0));

        // Spare 3 promised at the 3rd tick, and PREPARE goes to spare 4 alone at the 6th.
        CheapVotes y = new CheapVotes(3);
        y.campaign(0);
        Due.ticks(y, 3);
        Due.deliverTo(y, 3, 1);
        Due.deliverTo(y, 0, 2);
        Due.loseAll(y);
        Due.ticks(y, 3);
        due.same("not to spare 3", Scenes.countTo(y, 3, 1), 0);
        due.same("to spare 4", Scenes.countTo(y, 4, 1), 1);
        Due.deliverAll(y);
        y.submit(0, 5);
        Due.deliverAll(y);
        y.tick();
        due.onWay("both were asked", y, Due.mail(0, 3, 7, 0, 1, 0), Due.mail(0, 4, 7, 0, 1, 0));
    }

    /** The ACCEPT to the spare went, though it was lost because 300 were on the way. */
    private static void whatIsLostWent() {
        CheapVotes x = Due.led(2);
        x.submit(0, 5);
        Scenes.fill(x, 300);
        Due.ticks(x, 3);
        due.same("ACCEPTs to main 1 and the spare are lost", x.lost(), 2);
        Due.deliverAll(x);
        due.same("KNOWN", x.about(0, 0), 1);
        due.same("the spare heard nothing", x.about(2, 8), 0);
        x.tick();
        due.onWay("FORGET", x, Due.mail(0, 2, 7, 0, 1, 0));
    }

    private static void forgetThatIsLostIsNotSentAgain() {
        CheapVotes x = spareWasAsked(1);
        x.submit(0, 6);
        Scenes.fill(x, 300);
        x.tick();
        due.same("FORGET 1 is lost", x.lost(), 1);
        Due.loseAll(x);
        x.tick();
        due.same("k is not above the k before", Scenes.count(x, 7), 0);
    }

    private static void onlyMainsThatAreNotCrashed() {
        CheapVotes x = new CheapVotes(2);
        x.campaign(0);
        Due.loseAll(x);
        Due.ticks(x, 2);
        x.crash(0, true);
        Due.ticks(x, 6);
        due.same("crashed", x.way(), 0);
        x.crash(0, false);
        Due.ticks(x, 6);
        due.same("there again, without a ROLE", x.way(), 0);
    }
}
