/** Promise 3, campaign: the least r, and the four states in which it is refused. */
final class Promise3Test {
    private static final Due due = new Due();

    public static void main(String[] args) {
        leastBallot();
        noSuchMain();
        crashed();
        noMemberForKnown();
        knownIsHundred();
        rAboveThousand();
        nothingIsCountedYet();
        due.end("Promise3Test");
    }

    private static void leastBallot() {
        for (int main = 0; main < 5; main++) {
            due.same("r from 1 on", new CheapVotes(5).campaign(main), 8 + main);
        }
        CheapVotes x = new CheapVotes(3);
        due.same("first", x.campaign(1), 9);
        due.onWay("PREPAREs", x, Due.mail(1, 0, 1, 9, 0, 0), Due.mail(1, 2, 1, 9, 0, 0));
        due.same("role", x.about(1, 1), 1);
        due.same("ballot", x.about(1, 2), 9);
        due.same("its own came", x.about(1, 8), 2);
        due.same("above its own", x.campaign(1), 17);
        due.same("knows nothing of others", x.campaign(0), 8);
        Due.loseAll(x);
        x.campaign(1);
        x.deliver(1);
        due.same("main 2 above 25, with the same r", x.campaign(2), 26);
        Due.loseAll(x);
        x.campaign(2);
        x.deliver(0);
        due.same("main 0 above 34, with the next r", x.campaign(0), 40);
    }

    private static void noSuchMain() {
        for (int mains = 2; mains <= 5; mains++) {
            due.same("the last main", new CheapVotes(mains).campaign(mains - 1), 7 + mains);
        }
        int[] nodes = {-1, 3, 4, 5, Integer.MIN_VALUE, Integer.MAX_VALUE};
        for (int node : nodes) {
            due.refusedLeaves("campaign of " + node, Due.INDEX, Scenes::busy,
                x -> x.campaign(node));
        }
    }

    private static void crashed() {
        due.refusedLeaves("of a crashed one", Due.STATE, Scenes::busy, x -> x.campaign(2));
        CheapVotes x = Scenes.busy();
        x.crash(2, false);
        due.same("there again", x.campaign(2), 10);
    }

    /** Main 2 goes by slot 1, so that it is a MEMBER for slot 4 and not for slot 5. */
    private static void noMemberForKnown() {
        CheapVotes x = Scenes.mainTwoGoes(4);
        due.same("KNOWN", x.about(2, 0), 4);
        due.same("MEMBERS for 4", x.members(2, 4), 7);
        due.same("still a MEMBER", x.campaign(2), 18);
        due.onWay("to all MEMBERS for 4", x, Due.mail(2, 0, 1, 18, 4, 0),
            Due.mail(2, 1, 1, 18, 4, 0));
        CheapVotes out = Scenes.mainTwoGoes(5);
        due.same("KNOWN", out.about(2, 0), 5);
        due.same("MEMBERS for 5", out.members(2, 5), 3);
        due.refusedLeaves("of no MEMBER", Due.STATE, () -> Scenes.mainTwoGoes(5),
            y -> y.campaign(2));
        due.same("a MEMBER", out.campaign(0), 16);
        due.onWay("to the MEMBERS for 5 alone", out, Due.mail(0, 1, 1, 16, 5, 0));
    }

    private static void knownIsHundred() {
        CheapVotes x = Scenes.known(2, 99);
        due.same("KNOWN is 99", x.campaign(0), 16);
        due.onWay("with KNOWN", x, Due.mail(0, 1, 1, 16, 99, 0));
        due.same("KNOWN is 99", x.campaign(1), 9);
        CheapVotes full = Scenes.known(2, 100);
        due.same("KNOWN", full.about(0, 0), 100);
        due.same("KNOWN", full.about(1, 0), 100);
        for (int main = 0; main < 2; main++) {
            int node = main;
            due.refusedLeaves("KNOWN is 100", Due.STATE, () -> Scenes.known(2, 100),
                y -> y.campaign(node));
        }
        due.same("main 0 still leads", full.about(0, 1), 2);
    }

    /** Only more than the document's 512 calls come so far; the class keeps to it there, too. */
    private static void rAboveThousand() {
        due.same("r is 1000", Scenes.campaigned(999).campaign(0), 8000);
        due.refusedLeaves("r would be 1001", Due.STATE, () -> Scenes.campaigned(1000),
            x -> x.campaign(0));
        CheapVotes x = Scenes.campaigned(1000);
        x.deliver(0);
        due.same("main 1 above 8000", x.campaign(1), 8001);
        Due.deliverAll(x);
        due.same("main 0 heard of it", x.about(0, 3), 8001);
        due.refused("main 0 above 8001", Due.STATE, () -> x.campaign(0));
        due.refused("main 1 above 8001", Due.STATE, () -> x.campaign(1));
        due.same("main 1 leads", x.about(1, 1), 2);
    }

    private static void nothingIsCountedYet() {
        CheapVotes x = new CheapVotes(3);
        x.campaign(0);
        Due.deliverTo(x, 1, 1);
        Due.deliverTo(x, 0, 2);
        Due.ticks(x, 2);
        Due.loseAll(x);
        due.same("anew", x.campaign(0), 16);
        Due.deliverTo(x, 2, 1);
        Due.deliverTo(x, 0, 2);
        due.same("main 1 promised 8 alone", x.about(0, 1), 1);
        Due.loseAll(x);
        Due.ticks(x, 2);
        due.same("ticks count anew", x.way(), 0);
        x.tick();
        due.onWay("the 3rd", x, Due.mail(0, 1, 1, 16, 0, 0), Due.mail(0, 3, 1, 16, 0, 0),
            Due.mail(0, 4, 1, 16, 0, 0));
    }
}
