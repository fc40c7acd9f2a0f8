/** Promise 10, way: how many messages are on the way, 0 .. 300. */
final class Promise10Test {
    private static final Due due = new Due();

    public static void main(String[] args) {
        CheapVotes x = new CheapVotes(5);
        due.same("at first", x.way(), 0);
        x.campaign(0);
        due.same("four PREPAREs, and none to itself", x.way(), 4);
        x.repeat(0);
        due.same("repeated", x.way(), 5);
        x.lose(0);
        due.same("lost", x.way(), 4);
        x.deliver(0);
        due.same("one came, its PROMISE went", x.way(), 4);
        Scenes.fill(x, 300);
        due.same("300", x.way(), 300);
        x.campaign(0);
        due.same("never more", x.way(), 300);
        x.crash(0, true);
        due.same("a crash takes none away", x.way(), 300);
        Due.loseAll(x);
        due.same("none is left", x.way(), 0);
        due.end("Promise10Test");
    }
}
