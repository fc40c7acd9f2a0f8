/** Promise 7, tick: a TICK and nothing else; what that is, the tests of part 3 tell. */
final class Promise7Test {
    private static final Due due = new Due();

    public static void main(String[] args) {
        for (int mains = 2; mains <= 5; mains++) {
            CheapVotes x = new CheapVotes(mains);
            x.submit(0, 5);
            Due.ticks(x, 12);
            due.same("without a ROLE nothing goes", x.way(), 0);
            due.same("it still waits", x.about(0, 6), 1);
        }
        whatIsOnTheWayStays();
        oneTickEach();
        due.end("Promise7Test");
    }

    private static void whatIsOnTheWayStays() {
        CheapVotes x = new CheapVotes(3);
        x.campaign(0);
        x.tick();
        due.onWay("a tick delivers nothing", x, Due.mail(0, 1, 1, 8, 0, 0),
            Due.mail(0, 2, 1, 8, 0, 0));
        due.same("nothing came", x.about(1, 8), 0);
    }

    /** Mains by numbers, whoever campaigned first; crashed ones do nothing and count nothing. */
    private static void oneTickEach() {
        CheapVotes x = new CheapVotes(3);
        x.campaign(2);
        x.campaign(1);
        x.campaign(0);
        Due.loseAll(x);
        Due.ticks(x, 2);
        x.crash(1, true);
        x.tick();
        due.same("mains 0 and 2, four PREPAREs each", x.way(), 8);
        for (int i = 0; i < 8; i++) {
            due.same("by numbers", x.message(i, 0), i < 4 ? 0 : 2);
        }
    }
}
