/** Part 1, NODES: MEMBERS, QUORUM and ROLE at their edges. */
final class Part1NodesTest {
    private static final Due due = new Due();

    public static void main(String[] args) {
        acceptGoesToMembersForItsSlot();
        promisesOfMoreThanHalf();
        takenByMoreThanHalf();
        halfOfAnEvenNumber();
        allMembersAreEnough();
        noMembersDoNotCount();
        aMemberIsAmongThem();
        withoutMembersThereIsNone();
        withoutMembersNothingIsProposed();
        ballotAboveItsOwn();
        leadingTillItIsNoMember();
        preparingTillItIsNoMember();
        eachMainCanGo();
        keptByACrash();
        due.end("Part1NodesTest");
    }

    /** Main 2 goes by slot 1: it is asked for slot 4 and not for slot 5. */
    private static void acceptGoesToMembersForItsSlot() {
        CheapVotes x = Scenes.mainTwoIsGoing(2);
        due.same("KNOWN", x.about(0, 0), 2);
        for (int k = 0; k < 4; k++) {
            due.same("submit", x.submit(0, 21 + k), 0);
        }
        due.onWay("slots 2 .. 5", x, Due.mail(0, 1, 3, 8, 2, 21), Due.mail(0, 2, 3, 8, 2, 21),
            Due.mail(0, 1, 3, 8, 3, 22), Due.mail(0, 2, 3, 8, 3, 22),
            Due.mail(0, 1, 3, 8, 4, 23), Due.mail(0, 2, 3, 8, 4, 23),
            Due.mail(0, 1, 3, 8, 5, 24));
    }

    /** Of m mains and m - 1 spares m are more than half, m - 1 are not. */
    private static void promisesOfMoreThanHalf() {
        for (int mains = 2; mains <= 5; mains++) {
            CheapVotes x = new CheapVotes(mains);
            x.campaign(0);
            Due.loseAll(x);
            Due.ticks(x, 3);
            for (int spare = mains; spare < 2 * mains - 1; spare++) {
                due.same((spare - mains + 1) + " of " + (2 * mains - 1), x.about(0, 1), 1);
                Due.deliverTo(x, spare, 1);
                Due.deliverTo(x, 0, 2);
            }
            due.same(mains + " of " + (2 * mains - 1), x.about(0, 1), 2);
        }
    }

    private static void takenByMoreThanHalf() {
        for (int mains = 2; mains <= 5; mains++) {
            CheapVotes x = Due.led(mains);
            x.submit(0, 5);
            Due.loseAll(x);
            Due.ticks(x, 3);
            for (int spare = mains; spare < 2 * mains - 1; spare++) {
                due.same((spare - mains + 1) + " of " + (2 * mains - 1), x.about(0, 7), 0);
                Due.deliverTo(x, spare, 3);
                Due.deliverTo(x, 0, 4);
            }
            due.same(mains + " of " + (2 * mains - 1), x.about(0, 7), 1);
        }
    }

    /** Without main 2 there are two MEMBERS and two spares: two of four are not more than half. */
    private static void halfOfAnEvenNumber() {
        CheapVotes x = Scenes.mainTwoIsGoing(5);
        due.same("MEMBERS", x.members(0, 5), 3);
        x.submit(0, 8);
        Due.loseAll(x);
        Due.ticks(x, 3);
        Due.deliverTo(x, 3, 3);
        Due.deliverTo(x, 0, 4);
        due.same("two of four took it", x.about(0, 0), 5);
        Due.deliverTo(x, 4, 3);
        Due.deliverTo(x, 0, 4);
        due.same("three of four", x.about(0, 0), 6);

        CheapVotes y = Scenes.mainTwoIsGoing(5);
        y.campaign(0);
        Due.loseAll(y);
        Due.ticks(y, 3);
        Due.deliverTo(y, 3, 1);
        Due.deliverTo(y, 0, 2);
        due.same("two of four promised", y.about(0, 1), 1);
        Due.deliverTo(y, 4, 1);
        Due.deliverTo(y, 0, 2);
        due.same("three of four", y.about(0, 1), 2);
    }

    private static void allMembersAreEnough() {
        CheapVotes x = Scenes.mainTwoIsGoing(5);
        x.campaign(0);
        due.same("one MEMBER of two", x.about(0, 1), 1);
        Due.deliverTo(x, 1, 1);
        Due.deliverTo(x, 0, 2);
        due.same("both promised, and no spare", x.about(0, 1), 2);
        x.submit(0, 8);
        due.same("one MEMBER took it", x.about(0, 0), 5);
        Due.deliverTo(x, 1, 3);
        Due.deliverTo(x, 0, 4);
        due.same("both took it, and no spare", x.about(0, 0), 6);
    }

    /** Main 2 promised while main 1 did not know that it goes. */
    private static void noMembersDoNotCount() {
        CheapVotes x = Scenes.mainOneHearsNothing();
        x.crash(2, false);
        due.same("campaign", x.campaign(1), 9);
        Due.deliverTo(x, 2, 1);
        Due.deliverTo(x, 1, 2);
        Due.deliverTo(x, 0, 1);
        for (int k = 0; k < 5; k++) {
            Due.deliverTo(x, 1, 5);
        }
        Due.loseAll(x);
        due.same("KNOWN", x.about(1, 0), 5);
        due.same("MEMBERS", x.members(1, 5), 3);
        Due.ticks(x, 3);
        due.onWay("to whom has not promised", x, Due.mail(1, 0, 1, 9, 5, 0),
            Due.mail(1, 3, 1, 9, 5, 0), Due.mail(1, 4, 1, 9, 5, 0));
        Due.deliverTo(x, 3, 1);
        Due.deliverTo(x, 1, 2);
        due.same("1 and 3, but not 2", x.about(1, 1), 1);
        Due.deliverTo(x, 4, 1);
        Due.deliverTo(x, 1, 2);
        due.same("1, 3 and 4", x.about(1, 1), 2);
    }

    /**
     * Main 1 of 3 leads and knows 7, -2, -3, so that main 0 alone is a MEMBER for slot 6, and mains
     * 0 and 2 for slot 5. Slots 3 .. 6 are PROPOSED, and no ACCEPT for them came.
     */
    private static CheapVotes mainsOneAndTwoGo() {
        CheapVotes x = Due.led(3);
        x.submit(0, 7);
        Due.ticks(x, 4);
        Due.loseAll(x);
        x.campaign(1);
        Due.deliverAll(x);
        int[] row = {7, -2, -3};
        for (int s = 0; s < 3; s++) {
            due.same("slot " + s, x.decided(1, s), row[s]);
        }
        int[] members = {7, 7, 5, 1};
        for (int k = 0; k < 4; k++) {
            due.same("MEMBERS for " + (3 + k), x.members(1, 3 + k), members[k]);
            due.same("submit", x.submit(1, 23 + k), 0);
        }
        due.same("ACCEPT for slot 6", x.message(x.way() - 1, 4), 6);
        Due.loseAll(x);
        return x;
    }

    private static void deliverAccept(CheapVotes x, int to, int slot) {
        due.deliverSlot(x, to, 3, slot);
        Due.deliverTo(x, 1, 4);
    }

    private static void aMemberIsAmongThem() {
        CheapVotes x = mainsOneAndTwoGo();
        Due.ticks(x, 3);
        due.same("to main 0 and the spares", Scenes.countTo(x, 2, 3), 3);
        deliverAccept(x, 3, 6);
        deliverAccept(x, 4, 6);
        due.refused("two of three, and no MEMBER", Due.INDEX, () -> x.decided(1, 6));
        deliverAccept(x, 0, 6);
        due.same("now a MEMBER", x.decided(1, 6), 26);
        deliverAccept(x, 3, 5);
        deliverAccept(x, 4, 5);
        due.refused("two of four, and no MEMBER", Due.INDEX, () -> x.decided(1, 5));
        deliverAccept(x, 2, 5);
        due.same("three of four", x.decided(1, 5), 25);
    }

    /** Two mains take out one another: behind that, nobody is left. */
    private static void withoutMembersThereIsNone() {
        CheapVotes x = Due.led(2);
        // Main 0 PROPOSES to take out main 1, and only the spare hears of it.
        x.crash(1, true);
        x.submit(0, 7);
        x.run(8);
        due.same("the spare has it", x.accepted(2, 1, 1), -2);
        Due.loseAll(x);
        x.crash(0, true);
        x.crash(1, false);
        x.submit(1, 8);
        x.campaign(1);
        for (int k = 0; k < 60; k++) {
            x.run(1);
        }
        due.same("slot 0", x.decided(1, 0), 7);
        due.same("slot 1", x.decided(1, 1), -2);
        due.same("slot 2", x.decided(1, 2), 8);
        due.same("slot 3", x.decided(1, 3), -1);
        due.same("MEMBERS for 4", x.members(1, 4), 3);
        due.same("MEMBERS for 5", x.members(1, 5), 1);
        due.same("MEMBERS for 7", x.members(1, 7), 0);
        due.same("no MEMBER for KNOWN", x.about(1, 1), 0);
    }

    /** Slot 1 takes out main 1, slot 3 main 0: for slot 7 there is no QUORUM. */
    private static void withoutMembersNothingIsProposed() {
        CheapVotes x = Due.led(2);
        x.crash(1, true);
        x.submit(0, 7);
        x.run(8);
        Due.loseAll(x);
        x.crash(1, false);
        x.submit(1, 8);
        x.campaign(1);
        Due.deliverTo(x, 0, 1);
        Due.deliverTo(x, 1, 5);
        Due.deliverTo(x, 1, 2);
        due.same("LEADING by both mains", x.about(1, 1), 2);
        x.crash(0, true);
        for (int k = 0; k < 60 && x.about(1, 0) < 4; k++) {
            x.run(1);
        }
        int[] row = {7, -2, 8, -1};
        for (int s = 0; s < row.length; s++) {
            due.same("slot " + s, x.decided(1, s), row[s]);
        }
        due.same("MEMBERS for 4", x.members(1, 4), 3);
        due.same("MEMBERS for 6", x.members(1, 6), 1);
        due.same("MEMBERS for 7", x.members(1, 7), 0);
        Due.loseAll(x);
        for (int k = 0; k < 4; k++) {
            x.submit(1, 31 + k);
        }
        due.same("slots 5 and 6 are for main 0 alone", x.message(x.way() - 1, 4), 6);
        due.same("nothing for slot 7", x.accepted(1, 7, 0), 0);
        due.same("slot 4 was filled before", x.accepted(1, 4, 1), 0);
        due.same("so two wait", x.about(1, 6), 2);
    }

    /** REFUSED 9 comes to a main with 8, and to one that has 16 meanwhile. */
    private static void ballotAboveItsOwn() {
        for (int again = 0; again < 2; again++) {
            CheapVotes x = new CheapVotes(2);
            x.campaign(0);
            x.campaign(1);
            x.deliver(0);
            due.same("REFUSED", x.message(1, 2), 8);
            due.same("with 9", x.message(1, 3), 9);
            if (again == 1) {
                due.same("campaign", x.campaign(0), 16);
            }
            x.deliver(1);
            due.same("ROLE", x.about(0, 1), again);
            due.same("BALLOT", x.about(0, 2), 16 * again);
        }
        // An ACCEPT of main 1, LEADING with 9 by spares, ends the ROLE of main 0.
        CheapVotes x = Due.led(2);
        x.campaign(1);
        Due.loseAll(x);
        Due.ticks(x, 3);
        Due.deliverTo(x, 2, 1);
        Due.deliverTo(x, 1, 2);
        Due.loseAll(x);
        x.submit(1, 5);
        due.onWay("ACCEPT", x, Due.mail(1, 0, 3, 9, 0, 5));
        due.same("main 0 leads with 8", x.about(0, 1), 2);
        x.deliver(0);
        due.same("no more", x.about(0, 1), 0);
        due.same("and took it", x.accepted(0, 0, 0), 9);
        x.deliver(0);
        due.same("TAKEN 9 does not end the ROLE with 9", x.about(1, 1), 2);
    }

    /** Main 1 goes by slot 1: it leads with KNOWN 4 and no more with KNOWN 5. */
    private static void leadingTillItIsNoMember() {
        CheapVotes x = mainsOneAndTwoGo();
        Due.ticks(x, 3);
        deliverAccept(x, 3, 3);
        deliverAccept(x, 4, 3);
        due.same("KNOWN", x.about(1, 0), 4);
        due.same("a MEMBER for 4", x.about(1, 1), 2);
        deliverAccept(x, 3, 4);
        Due.loseAll(x);
        Due.ticks(x, 3);
        deliverAccept(x, 4, 4);
        due.same("KNOWN", x.about(1, 0), 5);
        due.same("no MEMBER for 5", x.about(1, 1), 0);
        due.same("BALLOT", x.about(1, 2), 0);
        int last = x.way() - 1;
        due.same("DECIDED goes all the same", x.message(last, 2), 5);
        due.same("slot 4", x.message(last, 4), 4);
        due.same("to main 2", x.message(last, 1), 2);
        due.same("to main 0", x.message(last - 1, 1), 0);
    }

    private static void preparingTillItIsNoMember() {
        CheapVotes x = Scenes.mainTwoGoes(0);
        due.same("campaign", x.campaign(2), 18);
        x.deliver(0);
        for (int k = 0; k < 4; k++) {
            Due.deliverTo(x, 2, 5);
        }
        due.same("KNOWN", x.about(2, 0), 4);
        due.same("a MEMBER for 4", x.about(2, 1), 1);
        Due.deliverTo(x, 2, 5);
        due.same("KNOWN", x.about(2, 0), 5);
        due.same("no MEMBER for 5", x.about(2, 1), 0);
        due.same("BALLOT", x.about(2, 2), 0);
    }

    /** - 1 - x: main x goes, whichever it is. */
    private static void eachMainCanGo() {
        for (int mains = 2; mains <= 5; mains++) {
            int all = (1 << mains) - 1;
            for (int gone = 0; gone < mains; gone++) {
                int leader = (gone + 1) % mains;
                CheapVotes x = new CheapVotes(mains);
                x.campaign(leader);
                Due.deliverAll(x);
                x.crash(gone, true);
                x.submit(leader, 7);
                x.run(50);
                String what = "main " + gone + " of " + mains;
                due.same(what, x.decided(leader, 1), -1 - gone);
                due.same(what, x.members(leader, 4), all);
                due.same(what, x.members(leader, 5), all & ~(1 << gone));
            }
        }
    }

    /** PROMISED, LOW, what is ACCEPTED, the LOG and what waits are kept; a ROLE is gone. */
    private static void keptByACrash() {
        CheapVotes x = Due.led(2);
        x.submit(0, 5);
        Due.ticks(x, 3);
        Due.deliverAll(x);
        x.tick();
        Due.deliverAll(x);
        x.submit(0, 6);
        Due.ticks(x, 3);
        Due.deliverTo(x, 2, 3);
        Due.loseAll(x);
        x.submit(1, 9);
        int[][] kept = {{1, 0, 0, 8, 0, 2, 0, 1}, {1, 0, 0, 8, 0, 1, 1, 1},
            {0, 0, 0, 8, 1, 1, 0, 0}};
        due.same("LEADING", x.about(0, 1), 2);
        boolean[] calls = {true, false};
        for (boolean on : calls) {
            for (int node = 0; node < 3; node++) {
                x.crash(node, on);
            }
            for (int node = 0; node < 3; node++) {
                for (int k = 0; k < 8; k++) {
                    due.same("about(" + node + ", " + k + ")", x.about(node, k), kept[node][k]);
                }
            }
            due.same("LOG of main 0", x.decided(0, 0), 5);
            due.same("LOG of main 1", x.decided(1, 0), 5);
            due.same("ACCEPTED by the spare", x.accepted(2, 1, 0), 8);
            due.same("ACCEPTED by the spare", x.accepted(2, 1, 1), 6);
        }
        due.same("9 waits still", x.submit(1, 10), 2);
        Due.ticks(x, 6);
        due.same("nobody leads", x.way(), 0);
    }
}
