/** Compares answers with those that are due, and ends a test. */
final class Due {
    static final Class<?> INDEX = IndexOutOfBoundsException.class;
    static final Class<?> ARGUMENT = IllegalArgumentException.class;
    static final Class<?> STATE = IllegalStateException.class;

    interface Call {
        long answer();
    }

    private int wrong;
    private int checked;

    void same(String what, long got, long want) {
        checked++;
        if (got != want) {
            wrong++;
            System.out.println(what + " answered " + got + ", due is " + want);
        }
    }

    /** The very class: one below it would be the machine's own. */
    void refused(String what, Class<?> want, Call call) {
        checked++;
        String got;
        try {
            got = "answered " + call.answer();
        } catch (RuntimeException e) {
            if (e.getClass() == want) {
                return;
            }
            got = "threw " + e;
        }
        wrong++;
        System.out.println(what + " " + got + ", due is " + want.getName());
    }

    /** All that is on the way: from, to, kind, BALLOT, slot and command of each. */
    void onWay(String what, CheapVotes x, int[]... rows) {
        same(what + ": way()", x.way(), rows.length);
        for (int i = 0; i < rows.length && i < x.way(); i++) {
            for (int k = 0; k < 6; k++) {
                same(what + ": message(" + i + ", " + k + ")", x.message(i, k), rows[i][k]);
            }
        }
    }

    static int[] mail(int from, int to, int kind, int ballot, int slot, int command) {
        return new int[] {from, to, kind, ballot, slot, command};
    }

    /** Main 0 is LEADING with BALLOT 8, all mains promised, and nothing is on the way. */
    static CheapVotes led(int mains) {
        CheapVotes x = new CheapVotes(mains);
        x.campaign(0);
        while (x.way() > 0) {
            x.deliver(0);
        }
        return x;
    }

    static void deliverAll(CheapVotes x) {
        for (int k = 0; k < 100000 && x.way() > 0; k++) {
            x.deliver(0);
        }
    }

    static void ticks(CheapVotes x, int n) {
        for (int k = 0; k < n; k++) {
            x.tick();
        }
    }

    static void loseAll(CheapVotes x) {
        for (int k = 0; k < 300 && x.way() > 0; k++) {
            x.lose(0);
        }
    }

    /** Delivers the first message of this kind to this node, and tells whether there was one. */
    static boolean deliverTo(CheapVotes x, int to, int kind) {
        for (int i = 0; i < x.way(); i++) {
            if (x.message(i, 1) == to && x.message(i, 2) == kind) {
                x.deliver(i);
                return true;
            }
        }
        return false;
    }

    void end(String test) {
        System.out.println(test + ": " + (checked - wrong) + " of " + checked + " answers are as due");
        if (wrong != 0) {
            System.exit(1);
        }
    }
}
