/** Objects that stand at an edge that the document names. */
final class Scenes {
    private Scenes() {
    }

    /**
     * Main 0 of 3 leads, main 2 is crashed; the window is full, more waits, ACCEPTs and a TAKEN are
     * on the way, and at the next tick main 0 takes out who is silent.
     */
    static CheapVotes busy() {
        CheapVotes x = Due.led(3);
        x.crash(2, true);
        for (int k = 1; k <= 7; k++) {
            x.submit(0, k);
        }
        x.submit(1, 50);
        x.run(3);
        x.deliver(x.way() - 1);
        x.repeat(0);
        x.deliver(0);
        return x;
    }

    /** So many wait at main 1, which has no ROLE. */
    static CheapVotes waiting(int n) {
        CheapVotes x = new CheapVotes(3);
        for (int k = 1; k <= n; k++) {
            x.submit(1, k);
        }
        return x;
    }

    /** Main 0 leads, and all mains know slots 0 .. n - 1. */
    static CheapVotes known(int mains, int n) {
        CheapVotes x = Due.led(mains);
        for (int k = 1; k <= n; k++) {
            x.submit(0, k);
            Due.deliverAll(x);
        }
        return x;
    }

    /** A PREPARE of main 0 to main 1 and copies of it: so many are on the way. */
    static CheapVotes onWay(int n) {
        CheapVotes x = new CheapVotes(2);
        x.campaign(0);
        fill(x, n);
        return x;
    }

    /** Copies of the first message, till so many are on the way. */
    static void fill(CheapVotes x, int n) {
        for (int k = x.way(); k < n; k++) {
            x.repeat(0);
        }
    }

    /**
     * Main 2 of 3 was crashed and went by slot 1; mains 0 and 1 know slots 0 .. 4. Main 2 is there
     * again, asks main 0 with BALLOT 10 and so knows so many of these; nothing is on the way.
     */
    static CheapVotes mainTwoGoes(int knownByTwo) {
        CheapVotes x = Due.led(3);
        x.crash(2, true);
        x.submit(0, 7);
        x.run(40);
        x.crash(2, false);
        Due.loseAll(x);
        x.campaign(2);
        x.deliver(0);
        // Behind the PREPARE to main 1: what main 0 tells of its LOG.
        for (int k = 0; k < knownByTwo; k++) {
            x.deliver(1);
        }
        Due.loseAll(x);
        return x;
    }

    /**
     * Main 0 of 3 leads, main 1 took all and is told nothing, main 2 is crashed and went by slot 1;
     * main 0 knows slots 0 .. 4, and nothing is on the way.
     */
    static CheapVotes mainOneHearsNothing() {
        CheapVotes x = Due.led(3);
        x.crash(2, true);
        x.submit(0, 7);
        for (int round = 0; round < 40; round++) {
            for (int k = x.way(); k > 0; k--) {
                if (x.message(0, 1) == 1 && x.message(0, 2) == 5) {
                    x.lose(0);
                } else {
                    x.deliver(0);
                }
            }
            x.tick();
        }
        Due.loseAll(x);
        return x;
    }

    /** Main 0 of 2 leads, main 1 is crashed and out, and the spare forgot slots 0 .. 4. */
    static CheapVotes mainOneIsOut() {
        CheapVotes x = Due.led(2);
        x.crash(1, true);
        x.submit(0, 7);
        x.run(40);
        Due.loseAll(x);
        return x;
    }

    /** Main 0 of 3 leads, main 2 is crashed and goes by slot 1; mains 0 and 1 know so many. */
    static CheapVotes mainTwoIsGoing(int known) {
        CheapVotes x = Due.led(3);
        x.crash(2, true);
        x.submit(0, 7);
        x.run(4);
        Due.deliverAll(x);
        for (int round = 0; round < 60 && x.about(0, 0) < known; round++) {
            x.tick();
            Due.deliverAll(x);
        }
        return x;
    }

    /** Main 0 of 2 leads; slot 0 is decided, main 1 TOLD 1, and that is once more on the way. */
    static CheapVotes lateTold() {
        CheapVotes x = Due.led(2);
        x.submit(0, 5);
        for (int k = 0; k < 3; k++) {
            x.deliver(0);
        }
        x.repeat(0);
        x.deliver(0);
        x.tick();
        return x;
    }

    /** Main 0 of 2 campaigned: it asks the spare by a tick and leads with it. */
    static void leadWithSpare(CheapVotes x) {
        Due.ticks(x, 3);
        Due.deliverTo(x, 2, 1);
        Due.deliverTo(x, 0, 2);
    }

    /** Main 0 of 2 campaigned so often: its BALLOT is 8 n. */
    static CheapVotes campaigned(int n) {
        CheapVotes x = new CheapVotes(2);
        for (int k = 0; k < n; k++) {
            Due.loseAll(x);
            x.campaign(0);
        }
        return x;
    }

    /** How many messages of a kind are on the way to a node. */
    static int countTo(CheapVotes x, int to, int kind) {
        int n = 0;
        for (int i = 0; i < x.way(); i++) {
            if (x.message(i, 1) == to && x.message(i, 2) == kind) {
                n++;
            }
        }
        return n;
    }

    /** How many messages of a kind are on the way. */
    static int count(CheapVotes x, int kind) {
        int n = 0;
        for (int i = 0; i < x.way(); i++) {
            if (x.message(i, 2) == kind) {
                n++;
            }
        }
        return n;
    }
}
