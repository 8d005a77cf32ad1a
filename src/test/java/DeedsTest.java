/** Promises 21 to 31. */
public final class DeedsTest {
    private static final int[] WRONG = {-1, 100, Integer.MIN_VALUE, Integer.MAX_VALUE};

    public static void main(String[] args) {
        days();
        lastDay();
        peaceAndWar();
        wax();
        trim();
        vote();
        hand();
        comb();
        elect();
        rule();
        dream();
        graft();
        wrongDeeds();
        wrongSettings();
        Checks.end();
    }

    private static void row(String what, MoustacheState x, int of, int... due) {
        Checks.due(what + ": how many", x.many(0), due.length);
        for (int h = 0; h < due.length; h++) {
            Checks.due(what + ": HAIR " + h, x.hair(h, of), due[h]);
        }
    }

    private static void days() {
        MoustacheState x = Checks.sample();
        Checks.gives("21: day(1)", x, x.day(1), 13 + 22 + 31 + 11);
        row("21: LENGTHS", x, 0, 13, 22, 31, 11);
        row("21: they rise", x, 2, 2, 1, 2, 2);
        Checks.gives("21: day(2)", x, x.day(2), 19 + 26 + 33 + 19);
        row("21: they rise", x, 2, 2, 2, 2, 2);
        Checks.due("21: the DAY", x.many(8), 3);
        Checks.gives("21: day(99)", x, x.day(99), 4 * 99);
        row("21: 99 at most", x, 0, 99, 99, 99, 99);
        MoustacheState free = Checks.of("hair a length 98 grows 0;hair b length 98;hair c length 98 grows 9;");
        Checks.gives("21: without RULERS", free, free.day(1), 98 + 99 + 99);
    }

    private static void lastDay() {
        MoustacheState x = Checks.of("hair a length 3 grows 0;");
        for (int i = 0; i < 101; i++) {
            Checks.gives("21: day(99)", x, x.day(99), 3);
        }
        Checks.due("21: above 9,999", x.day(1), -1);
        Checks.due("21: above 9,999", x.status(), 7);
        Checks.due("21: 9,999", x.many(8), 9999);
        MoustacheState y = Checks.of("hair a length 3;");
        for (int i = 0; i < 100; i++) {
            y.day(99);
        }
        y.day(98);
        y.trim(0, 0);
        Checks.due("21: two DAYS above 9,998", y.day(2), -1);
        Checks.due("21: two DAYS above 9,998", y.status(), 7);
        Checks.due("21: as it was", y.many(14), 0);
        Checks.due("21: wrong ahead of too many", y.day(100), -1);
        Checks.due("21: wrong ahead of too many", y.status(), 5);
        Checks.gives("21: the last", y, y.day(1), 1);
    }

    private static void peaceAndWar() {
        MoustacheState x = Checks.sample();
        Checks.gives("22: war", x, x.peace(false));
        Checks.due("22: many(9)", x.many(9), 0);
        x.day(1);
        row("22: they sink", x, 2, 1, 0, 0, 0);
        x.day(1);
        row("22: they sink", x, 2, 0, 0, 0, 0);
        Checks.gives("22: PEACE", x, x.peace(true));
        Checks.due("22: many(9)", x.many(9), 1);
        x.day(1);
        row("22: they rise", x, 2, 1, 1, 1, 1);
        Checks.denies("22: it is so", Checks::busy, y -> y.peace(true), 9);
        Checks.denies("22: it is so in war", DeedsTest::busyInWar, y -> y.peace(false), 9);
    }

    private static MoustacheState busyInWar() {
        MoustacheState x = Checks.busy();
        x.peace(false);
        return x;
    }

    private static void wax() {
        MoustacheState x = Checks.sample();
        Checks.gives("23: wax(1, 2)", x, x.wax(1, 2), 0);
        x.day(1);
        Checks.due("23: it holds", x.hair(1, 2), 0);
        Checks.due("23: a DAY less", x.hair(1, 3), 1);
        x.day(1);
        Checks.due("23: it holds", x.hair(1, 2), 0);
        Checks.due("23: none left", x.hair(1, 3), 0);
        x.day(1);
        Checks.due("23: it moves", x.hair(1, 2), 1);
        Checks.due("23: none below 0", x.hair(1, 3), 0);
        Checks.gives("23: wax(1, 99)", x, x.wax(1, 99), 0);
        Checks.gives("23: in place of those it had", x, x.wax(1, 5), 99);
        Checks.gives("23: taken off", x, x.wax(1, 0), 5);
        x.day(1);
        Checks.due("23: it moves", x.hair(1, 2), 2);
        MoustacheState y = Checks.sample();
        y.wax(1, 3);
        y.day(4);
        Checks.due("23: held for three of four DAYS", y.hair(1, 2), 1);
        Checks.due("23: it grows all the same", y.hair(1, 0), 28);
    }

    private static void trim() {
        MoustacheState x = Checks.sample();
        Checks.gives("24: trim(2, 29)", x, x.trim(2, 29), 1);
        Checks.gives("24: trim(2, 0)", x, x.trim(2, 0), 29);
        row("24: LENGTHS", x, 0, 10, 20, 0, 7);
        Checks.refuses("24: as long", Checks::sample, y -> y.trim(2, 30), 9);
        Checks.refuses("24: shorter", Checks::sample, y -> y.trim(2, 99), 9);
    }

    private static void vote() {
        MoustacheState x = Checks.sample();
        // whigs (5) and mob (12) are nearer to 12 than to 20, tories (40) are farther: 40 to 25.
        Checks.gives("25: it passes", x, x.vote(1, 12), 1);
        Checks.due("25: it is trimmed", x.hair(1, 0), 12);
        // whigs want 5: from 7 to 0 is farther for all.
        Checks.gives("25: it does not pass", x, x.vote(3, 0), 0);
        Checks.due("25: it is not trimmed", x.hair(3, 0), 7);
        MoustacheState even = Checks.of("hair a length 10;party p seats 5 wants 0;party q seats 5 wants 20;");
        Checks.gives("25: as many against it", even, even.vote(0, 5), 0);
        even.elect(0, 6);
        Checks.gives("25: one more for it", even, even.vote(0, 5), 1);
        MoustacheState idle = Checks.of("hair a length 10;party p seats 5 wants 8;");
        Checks.gives("25: neither nearer nor farther", idle, idle.vote(0, 6), 0);
        Checks.gives("25: nearer", idle, idle.vote(0, 7), 1);
        MoustacheState none = Checks.of("hair a length 10;");
        Checks.gives("25: without PARTIES", none, none.vote(0, 6), 0);
        Checks.refuses("25: as long", Checks::sample, y -> y.vote(2, 30), 9);
        Checks.refuses("25: shorter", Checks::sample, y -> y.vote(2, 99), 9);
    }

    private static void hand() {
        MoustacheState x = Checks.sample();
        Checks.gives("26: hand()", x, x.hand(), 1);
        Checks.gives("26: the LIP of who rules", x, x.day(1), 16 + 25 + 34 + 14);
        Checks.due("26: no next one", x.hand(), -1);
        Checks.due("26: no next one", x.status(), 9);
        Checks.due("26: who rules", x.ruler(), 1);
        Checks.refuses("26: no next one", Checks::busy, MoustacheState::hand, 9);
        Checks.refuses("26: nobody", () -> Checks.of("hair a length 1;"), MoustacheState::hand, 9);
    }

    private static void comb() {
        MoustacheState x = Checks.sample();
        Checks.gives("27: comb(0, 0)", x, x.comb(0, 0));
        Checks.gives("27: comb(1, 1)", x, x.comb(1, 1));
        Checks.gives("27: comb(2, 2)", x, x.comb(2, 2));
        row("27: they stand so", x, 2, 0, 1, 2, 1);
        for (int h = 0; h < 4; h++) {
            int hair = h;
            int stands = new int[] {2, 0, 1, 1}[h];
            Checks.denies("27: it does", Checks::sample, y -> y.comb(hair, stands), 9);
        }
    }

    private static void elect() {
        MoustacheState x = Checks.sample();
        Checks.gives("28: elect(2, 99)", x, x.elect(2, 99));
        Checks.gives("28: elect(0, 1)", x, x.elect(0, 1));
        Checks.gives("28: as many as it has", x, x.elect(0, 1));
        Checks.due("28: SEATS", x.party(2, 0), 99);
        Checks.due("28: WANTS stay", x.party(2, 1), 12);
        Checks.due("28: SEATS of all", x.many(15), 1 + 25 + 99);
    }

    private static void rule() {
        MoustacheState x = Checks.sample();
        for (int odds = 0; odds <= 16; odds += 16) {
            Checks.gives("29: ODDS", x, x.rule(6, odds));
            Checks.due("29: ODDS", x.many(6), odds);
        }
        for (int greys = 1; greys <= 99; greys += 98) {
            Checks.gives("29: GREYS", x, x.rule(7, greys));
            Checks.due("29: GREYS", x.many(7), greys);
        }
        Checks.gives("29: as it is", x, x.rule(7, 99));
    }

    private static void dream() {
        MoustacheState x = Checks.sample();
        for (int to = 0; to <= 3; to++) {
            if (to != 1) {
                Checks.gives("30: dream()", x, x.dream(2, 1, to));
                Checks.due("30: look()", x.look(2, 1), to);
            }
        }
        Checks.due("30: the others stay", x.look(2, 0) * 1000 + x.look(2, 2) * 100 + x.look(1, 1) * 10 + x.look(2, 3), 3302);
        Checks.denies("30: it is so", Checks::busy, y -> y.dream(0, 0, 2), 9);
        Checks.denies("30: it is either", Checks::busy, y -> y.dream(1, 3, 3), 9);
    }

    private static void graft() {
        MoustacheState x = Checks.sample();
        Checks.gives("31: graft(0, 9)", x, x.graft(0, 9), 4);
        Checks.gives("31: graft(99, 0)", x, x.graft(99, 0), 5);
        row("31: LENGTHS", x, 0, 10, 20, 30, 7, 0, 99);
        row("31: GROWS", x, 1, 2, 1, 0, 3, 9, 0);
        row("31: FLAT", x, 2, 2, 0, 1, 1, 1, 1);
        row("31: not waxed", x, 3, 0, 0, 0, 0, 0, 0);
        for (int look = 0; look < 3; look++) {
            Checks.gives("31: either", x, x.look(look, 4), 3);
        }
        x.wax(5, 7);
        x.state(0);
        Checks.gives("31: with nothing there", x, x.graft(1, 1), 0);
        Checks.gives("31: many", x, x.many(0), 1);
        MoustacheState again = Checks.sample();
        again.mark();
        again.graft(1, 1);
        again.wax(4, 9);
        again.comb(4, 0);
        again.dream(0, 4, 1);
        again.back();
        again.graft(2, 2);
        Checks.due("31: not waxed by one that was there", again.hair(4, 3), 0);
        Checks.due("31: FLAT in spite of one that was there", again.hair(4, 2), 1);
        Checks.due("31: either in spite of one that was there", again.look(0, 4), 3);
        Checks.refuses("31: a ninth", DeedsTest::eight, y -> y.graft(1, 1), 7);
        Checks.refuses("31: a wrong ninth", DeedsTest::eight, y -> y.graft(1, 10), 5);
    }

    private static MoustacheState eight() {
        MoustacheState x = Checks.sample();
        for (int i = 4; i < 8; i++) {
            Checks.due("31: graft()", x.graft(1, 1), i);
        }
        return x;
    }

    private static void wrongDeeds() {
        for (int w : WRONG) {
            Checks.refuses("21: day(" + w + ")", Checks::busy, x -> x.day(w), 5);
            Checks.refuses("23: no such HAIR", Checks::busy, x -> x.wax(w, w), 2);
            Checks.refuses("23: wax(0, " + w + ")", Checks::busy, x -> x.wax(0, w), 5);
            Checks.refuses("24: no such HAIR", Checks::busy, x -> x.trim(w, w), 2);
            Checks.refuses("24: trim(0, " + w + ")", Checks::busy, x -> x.trim(0, w), 5);
            Checks.refuses("25: no such HAIR", Checks::busy, x -> x.vote(w, w), 2);
            Checks.refuses("25: vote(0, " + w + ")", Checks::busy, x -> x.vote(0, w), 5);
            Checks.denies("27: no such HAIR", Checks::busy, x -> x.comb(w, w), 2);
            Checks.denies("27: comb(0, " + w + ")", Checks::busy, x -> x.comb(0, w), 5);
        }
        Checks.refuses("21: day(0)", Checks::busy, x -> x.day(0), 5);
        Checks.refuses("23: a fifth HAIR", Checks::busy, x -> x.wax(4, 1), 2);
        Checks.refuses("24: a fifth HAIR", Checks::busy, x -> x.trim(4, 0), 2);
        Checks.refuses("25: a fifth HAIR", Checks::busy, x -> x.vote(4, 0), 2);
        Checks.denies("27: a fifth HAIR", Checks::busy, x -> x.comb(4, 0), 2);
        Checks.denies("27: comb(0, 3)", Checks::busy, x -> x.comb(0, 3), 5);
    }

    private static void wrongSettings() {
        for (int w : WRONG) {
            Checks.denies("28: no such PARTY", Checks::busy, x -> x.elect(w, w), 2);
            Checks.denies("28: elect(0, " + w + ")", Checks::busy, x -> x.elect(0, w), 5);
            Checks.denies("29: rule(" + w + ", 3)", Checks::busy, x -> x.rule(w, 3), 5);
            Checks.denies("29: rule(6, " + w + ")", Checks::busy, x -> x.rule(6, w), 5);
            Checks.denies("29: rule(7, " + w + ")", Checks::busy, x -> x.rule(7, w), 5);
            Checks.denies("30: no such LOOK", Checks::busy, x -> x.dream(w, 0, w), 2);
            Checks.denies("30: no such HAIR", Checks::busy, x -> x.dream(0, w, w), 2);
            Checks.denies("30: dream(0, 0, " + w + ")", Checks::busy, x -> x.dream(0, 0, w), 5);
            Checks.refuses("31: graft(" + w + ", 1)", Checks::busy, x -> x.graft(w, 1), 5);
            Checks.refuses("31: graft(1, " + w + ")", Checks::busy, x -> x.graft(1, w), 5);
        }
        Checks.denies("28: a fourth PARTY", Checks::busy, x -> x.elect(3, 1), 2);
        Checks.denies("28: elect(0, 0)", Checks::busy, x -> x.elect(0, 0), 5);
        Checks.denies("29: rule(5, 3)", Checks::busy, x -> x.rule(5, 3), 5);
        Checks.denies("29: rule(8, 3)", Checks::busy, x -> x.rule(8, 3), 5);
        Checks.denies("29: rule(6, 17)", Checks::busy, x -> x.rule(6, 17), 5);
        Checks.denies("29: rule(7, 0)", Checks::busy, x -> x.rule(7, 0), 5);
        Checks.denies("30: a fourth LOOK", Checks::busy, x -> x.dream(3, 0, 0), 2);
        Checks.denies("30: a fifth HAIR", Checks::busy, x -> x.dream(0, 4, 0), 2);
        Checks.denies("30: dream(0, 0, 4)", Checks::busy, x -> x.dream(0, 0, 4), 5);
        Checks.refuses("31: graft(1, 10)", Checks::busy, x -> x.graft(1, 10), 5);
    }
}
