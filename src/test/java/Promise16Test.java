/** Promise 16, lost: what found 300 on the way, and nothing else. */
final class Promise16Test {
    private static final Due due = new Due();

    public static void main(String[] args) {
        roomForSome();
        notByOtherCalls();
        asManyAsFindNoRoom();
        due.end("Promise16Test");
    }

    /** Four PREPAREs, and room for so many. */
    private static void roomForSome() {
        for (int room = 0; room <= 6; room++) {
            CheapVotes x = new CheapVotes(5);
            x.campaign(0);
            Scenes.fill(x, 300 - room);
            due.same("none yet", x.lost(), 0);
            due.same("campaign", x.campaign(0), 16);
            int fit = Math.min(room, 4);
            due.same("room for " + room, x.lost(), 4 - fit);
            due.same("way", x.way(), 300 - room + fit);
            for (int k = 0; k < fit; k++) {
                due.same("the first ones fit", x.message(300 - room + k, 1), 1 + k);
                due.same("the first ones fit", x.message(300 - room + k, 3), 16);
            }
            due.same("what goes to itself is never lost", x.about(0, 3), 16);
            due.same("what goes to itself is never lost", x.about(0, 8), 4);
        }
    }

    private static void notByOtherCalls() {
        CheapVotes x = Scenes.onWay(300);
        due.refused("repeat", Due.STATE, () -> x.repeat(0));
        x.lose(0);
        x.crash(1, true);
        x.deliver(0);
        due.same("refused, lost by a call, come to a crashed one", x.lost(), 0);
        x.crash(1, false);
        x.deliver(0);
        due.same("an answer with room", x.lost(), 0);
    }

    private static void asManyAsFindNoRoom() {
        // DECIDED: main 0 tells its LOG of three slots and promises, with room for two.
        CheapVotes x = Due.led(2);
        for (int k = 5; k <= 7; k++) {
            x.submit(0, k);
        }
        for (int k = 0; k < 6; k++) {
            x.deliver(0);
        }
        Due.loseAll(x);
        x.campaign(1);
        Scenes.fill(x, 299);
        due.same("PREPARE comes", x.deliver(0), 1);
        due.same("DECIDED of slot 2 and the PROMISE", x.lost(), 2);
        due.same("DECIDED of slot 0", x.message(298, 4), 0);
        due.same("DECIDED of slot 1", x.message(299, 4), 1);
        due.same("the last on the way", x.message(299, 2), 5);

        // ACCEPTs, at once and by ticks.
        CheapVotes y = Due.led(2);
        y.submit(0, 5);
        Scenes.fill(y, 300);
        y.submit(0, 6);
        due.same("ACCEPT", y.lost(), 1);
        due.same("PROPOSED all the same", y.accepted(0, 1, 1), 6);
        Due.ticks(y, 3);
        due.same("ACCEPTs to main 1 and the spare, of two slots", y.lost(), 5);
    }
}
