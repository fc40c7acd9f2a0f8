/** Part 2, MESSAGES: 300 on the way, the kinds and GOING ON at their edges. */
final class Part2MessagesTest {
    private static final Due due = new Due();

    public static void main(String[] args) {
        theLastOfMoreThanThreeHundredIsLost();
        toItselfComesBeforeAllElse();
        prepareAtPromised();
        prepareAtTheEndOfTheLog();
        promiseAtKnown();
        promiseAboveKnown();
        theLatestPromiseCounts();
        acceptAtPromised();
        acceptAtLow();
        forgetAtLow();
        takenOnce();
        toldKeepsTheGreatest();
        fourSlotsFromKnownOn();
        slotsBelowHundred();
        slotsInTheLogAreSkipped();
        nothingForASlotBeforeOneThatIsTold();
        due.end("Part2MessagesTest");
    }

    /** What comes leaves room for one: of four DECIDED the first goes, three are lost. */
    private static void theLastOfMoreThanThreeHundredIsLost() {
        CheapVotes x = Due.led(5);
        x.submit(0, 5);
        for (int k = 0; k < 4; k++) {
            x.deliver(0);
        }
        for (int k = 0; k < 3; k++) {
            x.deliver(0);
        }
        due.onWay("the last TAKEN", x, Due.mail(4, 0, 4, 8, 0, 0));
        Scenes.fill(x, 300);
        due.same("deliver", x.deliver(0), 4);
        due.same("way", x.way(), 300);
        due.same("lost", x.lost(), 3);
        due.same("the others stand as they were", x.message(298, 2), 4);
        due.same("DECIDED", x.message(299, 2), 5);
        due.same("to main 1", x.message(299, 1), 1);
        due.same("main 0 knows it all the same", x.decided(0, 0), 5);
        // Of two that come, both leave room.
        due.same("deliver", x.deliver(299), 5);
        due.same("TOLD", x.message(299, 2), 6);
        due.same("lost", x.lost(), 3);
    }

    /** Main 0 is the only MEMBER: ACCEPT and TAKEN come within the call, with 300 on the way. */
    private static void toItselfComesBeforeAllElse() {
        CheapVotes x = Scenes.mainOneIsOut();
        int known = x.about(0, 0);
        due.same("alone", x.members(0, known), 1);
        x.submit(0, 8);
        Scenes.fill(x, 300);
        int came = x.about(0, 8);
        due.same("submit", x.submit(0, 9), 0);
        due.same("decided", x.decided(0, known + 1), 9);
        due.same("ACCEPT and TAKEN came", x.about(0, 8), came + 2);
        due.same("DECIDED to main 1 is lost", x.lost(), 1);
    }

    /** A node that PROMISED 9: 8 is below, 9 and 10 are not. */
    private static void prepareAtPromised() {
        for (int main = 0; main < 3; main++) {
            CheapVotes x = new CheapVotes(4);
            x.campaign(1);
            due.same("to main 3", x.message(2, 1), 3);
            x.deliver(2);
            Due.loseAll(x);
            due.same("PROMISED", x.about(3, 3), 9);
            if (main == 1) {
                Due.ticks(x, 3);
            } else {
                due.same("campaign", x.campaign(main), 8 + main);
            }
            due.same("PREPARE comes", Due.deliverTo(x, 3, 1) ? 1 : 0, 1);
            int last = x.way() - 1;
            due.same("goes back", x.message(last, 1), main);
            due.same("REFUSED or PROMISE", x.message(last, 2), main == 0 ? 8 : 2);
            due.same("BALLOT", x.message(last, 3), main == 2 ? 10 : 9);
            due.same("PROMISED", x.about(3, 3), main == 2 ? 10 : 9);
        }
    }

    /** Main 0 knows slots 0 .. 2; the asking main knows so many of them. */
    private static void prepareAtTheEndOfTheLog() {
        for (int known = 0; known <= 3; known++) {
            CheapVotes x = Due.led(2);
            for (int k = 0; k < 3; k++) {
                x.submit(0, 5 + k);
            }
            for (int k = 0; k < 6; k++) {
                x.deliver(0);
            }
            for (int k = 0; k < known; k++) {
                Due.deliverTo(x, 1, 5);
            }
            Due.loseAll(x);
            x.campaign(1);
            x.deliver(0);
            due.same("DECIDED from slot " + known + " on, and PROMISE", x.way(), 4 - known);
            for (int s = known; s < 3; s++) {
                due.same("slot", x.message(s - known, 4), s);
                due.same("command", x.message(s - known, 5), 5 + s);
            }
            due.same("PROMISE is behind", x.message(3 - known, 2), 2);
        }
    }

    /** The spare's LOW is 2; main 1 knows slots 0 and 1, so that its PROMISE counts. */
    private static void promiseAtKnown() {
        CheapVotes x = Due.led(2);
        x.submit(0, 5);
        x.submit(0, 6);
        Due.ticks(x, 3);
        Due.deliverAll(x);
        x.tick();
        Due.deliverAll(x);
        due.same("LOW", x.about(2, 4), 2);
        due.same("KNOWN", x.about(1, 0), 2);
        x.crash(0, true);
        x.campaign(1);
        Due.deliverAll(x);
        Due.ticks(x, 3);
        Due.deliverAll(x);
        due.same("LOW is not above KNOWN", x.about(1, 1), 2);
    }

    /** The spare's LOW is 5; main 1 went and knows slots 0 .. 3. */
    private static void promiseAboveKnown() {
        CheapVotes x = Scenes.mainOneIsOut();
        due.same("LOW", x.about(2, 4), 5);
        x.crash(1, false);
        x.campaign(1);
        x.deliver(0);
        for (int k = 0; k < 4; k++) {
            Due.deliverTo(x, 1, 5);
        }
        Due.loseAll(x);
        due.same("KNOWN", x.about(1, 0), 4);
        due.same("PREPARING", x.about(1, 1), 1);
        Due.ticks(x, 3);
        Due.deliverTo(x, 2, 1);
        due.same("PROMISE", x.message(x.way() - 1, 2), 2);
        due.same("its LOW", x.message(x.way() - 1, 4), 5);
        Due.deliverTo(x, 1, 2);
        due.same("LOW is above KNOWN", x.about(1, 1), 1);
        Due.loseAll(x);
        Due.ticks(x, 3);
        due.onWay("but it promised", x, Due.mail(1, 0, 1, 9, 4, 0));
    }

    /** Main 2 promises 8, hears that 6 is decided, and promises 8 once more. */
    private static void theLatestPromiseCounts() {
        CheapVotes x = new CheapVotes(3);
        x.campaign(0);
        Due.ticks(x, 3);
        x.repeat(1);
        due.deliverFrom(x, 0, 2, 1);
        due.deliverFrom(x, 2, 0, 2);
        // This PROMISE comes last of all.
        due.deliverFrom(x, 0, 3, 1);
        x.campaign(1);
        Due.ticks(x, 3);
        for (int spare = 3; spare <= 4; spare++) {
            due.deliverFrom(x, 1, spare, 1);
            due.deliverFrom(x, spare, 1, 2);
        }
        x.submit(1, 6);
        Due.ticks(x, 3);
        for (int spare = 3; spare <= 4; spare++) {
            due.deliverFrom(x, 1, spare, 3);
            due.deliverFrom(x, spare, 1, 4);
        }
        due.same("main 1 and the spares", x.decided(1, 0), 6);
        due.deliverFrom(x, 1, 2, 5);
        due.deliverFrom(x, 0, 2, 1);
        due.deliverFrom(x, 2, 0, 2);
        due.same("0 and 2 are no QUORUM", x.about(0, 1), 1);
        due.same("waits", x.submit(0, 5), 1);
        due.deliverFrom(x, 3, 0, 2);
        due.same("LEADING by 0, 2 and 3", x.about(0, 1), 2);
        due.same("BALLOT", x.about(0, 2), 8);
        due.same("what the latest PROMISE tells", x.accepted(0, 0, 1), 6);
        due.same("then what waits", x.accepted(0, 1, 1), 5);
    }

    /** A spare that PROMISED 9: ACCEPT 8 is refused, ACCEPT 9 is taken. */
    private static void acceptAtPromised() {
        CheapVotes x = Due.led(2);
        x.submit(0, 5);
        Due.loseAll(x);
        Due.ticks(x, 3);
        x.campaign(1);
        Due.ticks(x, 3);
        Due.deliverTo(x, 2, 1);
        due.same("PROMISED", x.about(2, 3), 9);
        Due.deliverTo(x, 2, 3);
        due.same("ACCEPT 8 is not taken", x.accepted(2, 0, 0), 0);
        int[] refused = Due.mail(2, 0, 8, 9, 0, 0);
        for (int k = 0; k < 6; k++) {
            due.same("REFUSED with PROMISED, " + k, x.message(x.way() - 1, k), refused[k]);
        }
        Due.deliverTo(x, 1, 2);
        due.same("LEADING", x.about(1, 1), 2);
        x.crash(0, true);
        Due.loseAll(x);
        x.submit(1, 6);
        Due.loseAll(x);
        Due.ticks(x, 3);
        Due.deliverTo(x, 2, 3);
        due.same("ACCEPT 9 is taken", x.accepted(2, 0, 0), 9);
        due.same("ACCEPT 9 is taken", x.accepted(2, 0, 1), 6);
        due.same("TAKEN", x.message(x.way() - 1, 2), 4);
    }

    /** Slots 0 .. 3 are PROPOSED, and ACCEPTs for them are on the way to main 1 and the spare. */
    private static CheapVotes spareIsAsked() {
        CheapVotes x = Due.led(2);
        for (int k = 0; k < 4; k++) {
            x.submit(0, 5 + k);
        }
        Due.loseAll(x);
        Due.ticks(x, 3);
        due.same("ACCEPTs", x.way(), 8);
        return x;
    }

    /** Mains 0 and 1 know slots 0 and 1, and FORGET 2 is on the way. */
    private static void forgetTwoGoes(CheapVotes x) {
        for (int s = 0; s < 2; s++) {
            due.deliverSlot(x, 1, 3, s);
            due.deliverSlot(x, 0, 4, s);
            due.deliverSlot(x, 1, 5, s);
            due.deliverSlot(x, 0, 6, s + 1);
        }
        x.tick();
        due.same("FORGET", Scenes.countTo(x, 2, 7), 1);
    }

    /** With LOW 2, slot 1 is below and slot 2 is not; PROMISED rises by both. */
    private static void acceptAtLow() {
        CheapVotes x = spareIsAsked();
        forgetTwoGoes(x);
        due.deliverSlot(x, 2, 7, 2);
        due.same("LOW", x.about(2, 4), 2);
        due.same("PROMISED", x.about(2, 3), 0);
        int way = x.way();
        due.deliverSlot(x, 2, 3, 1);
        due.same("no TAKEN", x.way(), way - 1);
        due.same("slot 1", x.accepted(2, 1, 0), 0);
        due.same("slot 1", x.accepted(2, 1, 1), 0);
        due.same("keeps nothing", x.about(2, 5), 0);
        due.same("PROMISED", x.about(2, 3), 8);
        way = x.way();
        due.deliverSlot(x, 2, 3, 2);
        due.same("TAKEN", x.way(), way);
        due.same("TAKEN", x.message(way - 1, 2), 4);
        due.same("slot 2", x.accepted(2, 2, 0), 8);
        due.same("slot 2", x.accepted(2, 2, 1), 7);
        due.same("keeps one", x.about(2, 5), 1);
    }

    /** FORGET 2 takes slots 0 and 1 and leaves 2 and 3; once more, and a lower one, do nothing. */
    private static void forgetAtLow() {
        CheapVotes x = spareIsAsked();
        for (int s = 0; s < 4; s++) {
            due.deliverSlot(x, 2, 3, s);
        }
        due.same("keeps four", x.about(2, 5), 4);
        // Slot 0 alone is decided first, so that a FORGET 1 is on the way, too.
        due.deliverSlot(x, 1, 3, 0);
        due.deliverSlot(x, 0, 4, 0);
        due.deliverSlot(x, 1, 5, 0);
        due.deliverSlot(x, 0, 6, 1);
        x.tick();
        due.deliverSlot(x, 1, 3, 1);
        due.deliverSlot(x, 0, 4, 1);
        due.deliverSlot(x, 1, 5, 1);
        due.deliverSlot(x, 0, 6, 2);
        x.tick();
        due.same("two FORGETs", Scenes.countTo(x, 2, 7), 2);
        repeatForget(x, 2);
        due.deliverSlot(x, 2, 7, 2);
        keepsTwoAndThree(x);
        due.deliverSlot(x, 2, 7, 1);
        keepsTwoAndThree(x);
        due.deliverSlot(x, 2, 7, 2);
        keepsTwoAndThree(x);
    }

    private static void repeatForget(CheapVotes x, int k) {
        for (int i = 0; i < x.way(); i++) {
            if (x.message(i, 2) == 7 && x.message(i, 4) == k) {
                x.repeat(i);
                return;
            }
        }
        due.same("no FORGET " + k, 0, 1);
    }

    private static void keepsTwoAndThree(CheapVotes x) {
        due.same("LOW", x.about(2, 4), 2);
        due.same("keeps two", x.about(2, 5), 2);
        for (int s = 0; s < 4; s++) {
            due.same("slot " + s, x.accepted(2, s, 0), s < 2 ? 0 : 8);
            due.same("slot " + s, x.accepted(2, s, 1), s < 2 ? 0 : 5 + s);
        }
    }

    /** TAKEN for what is in the LOG already: no DECIDED once more. */
    private static void takenOnce() {
        CheapVotes x = spareIsAsked();
        due.deliverSlot(x, 2, 3, 0);
        due.deliverSlot(x, 1, 3, 0);
        due.deliverSlot(x, 0, 4, 0);
        due.same("decided", x.decided(0, 0), 5);
        int way = x.way();
        due.deliverSlot(x, 0, 4, 0);
        due.same("nothing goes", x.way(), way - 1);
        due.same("one DECIDED", Scenes.count(x, 5), 1);
    }

    /** TOLD 2 and then TOLD 1: k is 2. */
    private static void toldKeepsTheGreatest() {
        CheapVotes x = spareIsAsked();
        for (int s = 0; s < 2; s++) {
            due.deliverSlot(x, 1, 3, s);
            due.deliverSlot(x, 0, 4, s);
            due.deliverSlot(x, 1, 5, s);
        }
        due.deliverSlot(x, 0, 6, 2);
        due.deliverSlot(x, 0, 6, 1);
        x.tick();
        due.same("FORGET", Scenes.countTo(x, 2, 7), 1);
        due.deliverSlot(x, 2, 7, 2);
    }

    private static void fourSlotsFromKnownOn() {
        int[] counts = {0, 1, 7};
        for (int known : counts) {
            CheapVotes x = Scenes.known(2, known);
            for (int k = 0; k < 5; k++) {
                due.same("submit", x.submit(0, 60 + k), k < 4 ? 0 : 1);
            }
            due.same("KNOWN + 3", x.accepted(0, known + 3, 1), 63);
            due.same("KNOWN + 4", x.accepted(0, known + 4, 0), 0);
            due.same("ACCEPTs", x.way(), 4);
            x.deliver(0);
            Due.deliverTo(x, 0, 4);
            due.same("KNOWN is one more", x.accepted(0, known + 4, 1), 64);
            due.same("nothing waits", x.about(0, 6), 0);
        }
    }

    private static void slotsBelowHundred() {
        for (int known = 95; known <= 100; known++) {
            CheapVotes x = Scenes.known(2, known);
            int free = Math.min(4, 100 - known);
            for (int k = 0; k < 6; k++) {
                due.same("submit with " + known, x.submit(0, 60 + k), Math.max(0, k + 1 - free));
            }
            due.same("ACCEPTs", x.way(), free);
            Due.deliverAll(x);
            int fit = Math.min(6, 100 - known);
            due.same("KNOWN", x.about(0, 0), known + fit);
            due.same("KNOWN", x.about(1, 0), known + fit);
            due.same("the rest waits", x.about(0, 6), 6 - fit);
            x.run(20);
            due.same("for ever", x.about(0, 6), 6 - fit);
        }
    }

    /** Main 1 knows slot 1 alone and leads: it PROPOSES for 0, 2 and 3. */
    private static void slotsInTheLogAreSkipped() {
        CheapVotes x = Due.led(2);
        x.submit(0, 5);
        x.submit(0, 6);
        x.deliver(1);
        x.deliver(1);
        Due.deliverTo(x, 1, 5);
        Due.loseAll(x);
        due.same("main 1 knows slot 1", x.decided(1, 1), 6);
        x.campaign(1);
        due.same("PREPARE with KNOWN 0", x.message(0, 4), 0);
        x.deliver(0);
        due.same("DECIDED of slot 1", x.message(0, 4), 1);
        Due.deliverTo(x, 1, 2);
        for (int k = 0; k < 3; k++) {
            x.submit(1, 61 + k);
        }
        due.same("slot 0 as main 0 ACCEPTED it", x.accepted(1, 0, 1), 5);
        due.same("slot 1 not anew", x.accepted(1, 1, 0), 8);
        due.same("slot 2", x.accepted(1, 2, 1), 61);
        due.same("slot 3", x.accepted(1, 3, 1), 62);
        due.same("one waits", x.about(1, 6), 1);
    }

    /** A main took slot n alone, and leads with the spare: 0 for the slots before, not behind. */
    private static void nothingForASlotBeforeOneThatIsTold() {
        for (int main = 0; main < 2; main++) {
            for (int slot = 0; slot < 4; slot++) {
                tookOneSlotAlone(main, slot);
            }
        }
    }

    private static void tookOneSlotAlone(int main, int slot) {
        CheapVotes x = new CheapVotes(2);
        int other = 1 - main;
        x.campaign(other);
        Due.deliverAll(x);
        for (int s = 0; s < 4; s++) {
            x.submit(other, 5 + s);
        }
        due.deliverSlot(x, main, 3, slot);
        Due.loseAll(x);
        x.crash(other, true);
        x.submit(main, 60);
        x.submit(main, 61);
        int ballot = x.campaign(main);
        Due.loseAll(x);
        Due.ticks(x, 3);
        Due.deliverTo(x, 2, 1);
        Due.deliverTo(x, main, 2);
        due.same("LEADING", x.about(main, 1), 2);
        for (int s = 0; s < 4; s++) {
            int c = s < slot ? 0 : s == slot ? 5 + s : s < slot + 3 ? 59 + s - slot : 0;
            due.same("slot " + s + " with " + slot, x.accepted(main, s, 1), c);
            int b = s < slot + 3 ? ballot : 0;
            due.same("slot " + s + " with " + slot, x.accepted(main, s, 0), b);
        }
        due.same("what waits", x.about(main, 6), Math.max(0, slot - 1));
    }
}
