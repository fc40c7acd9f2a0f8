import java.util.ArrayList;
import java.util.List;
import java.util.function.Supplier;
import java.util.function.ToLongFunction;

/** Compares answers with those that are due, and ends a test. */
final class Due {
    static final Class<?> INDEX = IndexOutOfBoundsException.class;
    static final Class<?> ARGUMENT = IllegalArgumentException.class;
    static final Class<?> STATE = IllegalStateException.class;

    interface Call {
        long answer();
    }

    private int wrong;
    private int checked;

    void same(String what, long got, long want) {
        checked++;
        if (got != want) {
            wrong++;
            System.out.println(what + " answered " + got + ", due is " + want);
        }
    }

    /** The very class: one below it would be the machine's own. */
    void refused(String what, Class<?> want, Call call) {
        checked++;
        String got;
        try {
            got = "answered " + call.answer();
        } catch (RuntimeException e) {
            if (e.getClass() == want) {
                return;
            }
            got = "threw " + e;
        }
        wrong++;
        System.out.println(what + " " + got + ", due is " + want.getName());
    }

    /**
     * A refused call leaves everything as it was. A twin of the object, to which the call was never
     * made, tells what there was to see, and by some ticks and rounds what cannot be seen at once.
     */
    void refusedLeaves(String what, Class<?> want, Supplier<CheapVotes> scene,
            ToLongFunction<CheapVotes> call) {
        CheapVotes x = scene.get();
        CheapVotes twin = scene.get();
        refused(what, want, () -> call.applyAsLong(x));
        sameSeen(what + ", at once", x, twin);
        for (int k = 1; k <= 7; k++) {
            x.tick();
            twin.tick();
            sameSeen(what + ", " + k + " ticks later", x, twin);
        }
        for (int k = 1; k <= 8; k++) {
            x.run(1);
            twin.run(1);
            sameSeen(what + ", " + k + " rounds later", x, twin);
        }
    }

    private void sameSeen(String what, CheapVotes x, CheapVotes twin) {
        checked++;
        List<String> got = seen(x);
        List<String> want = seen(twin);
        for (int k = 0; k < Math.min(got.size(), want.size()); k++) {
            if (!got.get(k).equals(want.get(k))) {
                wrong++;
                System.out.println(what + ": " + got.get(k) + ", due is " + want.get(k));
                return;
            }
        }
    }

    /** All that the calls of the face tell of an object; its first row tells how many there are. */
    private static List<String> seen(CheapVotes x) {
        List<String> all = new ArrayList<>();
        all.add("way() = " + x.way());
        all.add("lost() = " + x.lost());
        for (int i = 0; i < x.way(); i++) {
            for (int k = 0; k < 6; k++) {
                all.add("message(" + i + ", " + k + ") = " + x.message(i, k));
            }
        }
        int mains = Integer.bitCount(x.members(0, 0));
        for (int node = 0; node < 2 * mains - 1; node++) {
            for (int k = 0; k < 9; k++) {
                all.add("about(" + node + ", " + k + ") = " + x.about(node, k));
            }
            for (int s = 0; s < 100; s++) {
                all.add("accepted(" + node + ", " + s + ") = " + x.accepted(node, s, 0) + " "
                    + x.accepted(node, s, 1));
                all.add("decided(" + node + ", " + s + ") = " + decidedOrNot(x, node, s));
            }
        }
        return all;
    }

    private static String decidedOrNot(CheapVotes x, int node, int slot) {
        try {
            return String.valueOf(x.decided(node, slot));
        } catch (IndexOutOfBoundsException e) {
            return "none";
        }
    }

    /** All that is on the way: from, to, kind, BALLOT, slot and command of each. */
    void onWay(String what, CheapVotes x, int[]... rows) {
        same(what + ": way()", x.way(), rows.length);
        for (int i = 0; i < rows.length && i < x.way(); i++) {
            for (int k = 0; k < 6; k++) {
                same(what + ": message(" + i + ", " + k + ")", x.message(i, k), rows[i][k]);
            }
        }
    }

    static int[] mail(int from, int to, int kind, int ballot, int slot, int command) {
        return new int[] {from, to, kind, ballot, slot, command};
    }

    /** Main 0 is LEADING with BALLOT 8, all mains promised, and nothing is on the way. */
    static CheapVotes led(int mains) {
        CheapVotes x = new CheapVotes(mains);
        x.campaign(0);
        while (x.way() > 0) {
            x.deliver(0);
        }
        return x;
    }

    static void deliverAll(CheapVotes x) {
        for (int k = 0; k < 100000 && x.way() > 0; k++) {
            x.deliver(0);
        }
    }

    static void ticks(CheapVotes x, int n) {
        for (int k = 0; k < n; k++) {
            x.tick();
        }
    }

    static void loseAll(CheapVotes x) {
        for (int k = 0; k < 300 && x.way() > 0; k++) {
            x.lose(0);
        }
    }

    /** Delivers the first message of this kind to this node, and tells whether there was one. */
    static boolean deliverTo(CheapVotes x, int to, int kind) {
        for (int i = 0; i < x.way(); i++) {
            if (x.message(i, 1) == to && x.message(i, 2) == kind) {
                x.deliver(i);
                return true;
            }
        }
        return false;
    }

    /** Delivers the first message of this kind from one node to another; there must be one. */
    void deliverFrom(CheapVotes x, int from, int to, int kind) {
        for (int i = 0; i < x.way(); i++) {
            if (x.message(i, 0) == from && x.message(i, 1) == to && x.message(i, 2) == kind) {
                x.deliver(i);
                return;
            }
        }
        same("messages of kind " + kind + " from " + from + " to " + to, 0, 1);
    }

    /** Delivers the first message of this kind to this node for this slot; there must be one. */
    void deliverSlot(CheapVotes x, int to, int kind, int slot) {
        for (int i = 0; i < x.way(); i++) {
            if (x.message(i, 1) == to && x.message(i, 2) == kind && x.message(i, 4) == slot) {
                x.deliver(i);
                return;
            }
        }
        same("messages of kind " + kind + " to " + to + " for " + slot, 0, 1);
    }

    void end(String test) {
        int right = checked - wrong;
        System.out.println(test + ": " + right + " of " + checked + " answers are as due");
        if (wrong != 0) {
            System.exit(1);
        }
    }
}
