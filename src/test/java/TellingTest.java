/** Promises 13 to 20. */
public final class TellingTest {
    private static final int[] WRONG = {-1, 99, Integer.MIN_VALUE, Integer.MAX_VALUE};

    public static void main(String[] args) {
        many();
        greySets();
        hair();
        party();
        ruler();
        look();
        pair();
        copyLengths();
        wrongCalls();
        Checks.end();
    }

    private static void many() {
        MoustacheState x = Checks.sample();
        int[] due = {4, 3, 2, 3, 3, 3, 4, 2, 0, 1, 0, 0, 1, 2, 67, 65};
        for (int what = 0; what < due.length; what++) {
            Checks.gives("13: many(" + what + ")", x, x.many(what), due[what]);
        }
        x.peace(false);
        x.wax(1, 2);
        x.wax(3, 1);
        x.day(1);
        x.peace(true);
        x.peace(false);
        int[] then = {4, 3, 2, 3, 3, 3, 4, 2, 1, 0, 2, 0, 0, 6, 77, 65};
        for (int what = 0; what < then.length; what++) {
            Checks.gives("13: then many(" + what + ")", x, x.many(what), then[what]);
        }
        MoustacheState bare = Checks.of("hair a length 1;");
        Checks.gives("13: ODDS without", bare, bare.many(6), 2);
        Checks.gives("13: GREYS without", bare, bare.many(7), 20);
    }

    private static void greySets() {
        MoustacheState x = Checks.of("greys 3;hair a length 1;hair b length 1;hair c length 1;hair d length 1;hair e length 1;");
        int[] due = {0, 0, 0, 17, 17, 17, 27, 27, 27, 31, 31};
        for (int day = 0; day < due.length; day++) {
            Checks.gives("13: GREY on DAY " + day, x, x.many(11), due[day]);
            Checks.gives("43: greyIn(0) on DAY " + day, x, x.greyIn(0), Integer.bitCount(due[day]));
            x.day(1);
        }
        MoustacheState one = Checks.of("greys 1;hair a length 1;");
        Checks.gives("13: none is GREY on DAY 0", one, one.many(11), 0);
        one.day(1);
        Checks.gives("13: the only one is GREY", one, one.many(11), 1);
    }

    private static void hair() {
        MoustacheState x = Checks.sample();
        x.wax(2, 9);
        int[][] due = {{10, 2, 2, 0}, {20, 1, 0, 0}, {30, 0, 1, 9}, {7, 3, 1, 0}};
        for (int h = 0; h < 4; h++) {
            for (int what = 0; what < 4; what++) {
                Checks.gives("14: hair(" + h + ", " + what + ")", x, x.hair(h, what), due[h][what]);
            }
        }
    }

    private static void party() {
        MoustacheState x = Checks.sample();
        int[][] due = {{30, 5}, {25, 40}, {10, 12}};
        for (int p = 0; p < 3; p++) {
            Checks.gives("15: SEATS", x, x.party(p, 0), due[p][0]);
            Checks.gives("15: WANTS", x, x.party(p, 1), due[p][1]);
        }
    }

    private static void ruler() {
        MoustacheState x = Checks.sample();
        Checks.gives("16: ruler()", x, x.ruler(), 0);
        Checks.gives("17: lip(0)", x, x.lip(0), 1);
        Checks.gives("17: lip(1)", x, x.lip(1), 4);
        x.hand();
        Checks.gives("16: ruler() behind a HAND", x, x.ruler(), 1);
        Checks.refuses("16: none", () -> Checks.of("hair a length 1;"), MoustacheState::ruler, 8);
    }

    private static void look() {
        MoustacheState x = Checks.of("hair a length 1;look all up;hair b length 2;hair c length 3;look new down flat;look none;look rest either either up;");
        int[][] due = {{2, 3, 3}, {0, 1, 3}, {3, 3, 3}, {3, 3, 2}};
        for (int look = 0; look < 4; look++) {
            for (int h = 0; h < 3; h++) {
                Checks.gives("18: look(" + look + ", " + h + ")", x, x.look(look, h), due[look][h]);
            }
        }
    }

    private static void pair() {
        MoustacheState x = Checks.of("barber a;barber b;pair b a;barber c;pair a c;pair a c;");
        int[][] due = {{1, 0}, {0, 2}, {0, 2}};
        for (int p = 0; p < 3; p++) {
            Checks.gives("19: the first", x, x.pair(p, 0), due[p][0]);
            Checks.gives("19: the second", x, x.pair(p, 1), due[p][1]);
        }
    }

    private static void copyLengths() {
        for (int sort = 0; sort < 4; sort++) {
            MoustacheState x = Checks.sample();
            x.day(99);
            x.tray(3, sort, 5);
            x.write(3, 4, -8);
            Checks.gives("20: copyLengths()", x, x.copyLengths(3), 4);
            int[] due = {99, 99, 99, 99, -8};
            for (int i = 0; i < 5; i++) {
                Checks.due("20: read()", x.read(3, i), due[i]);
            }
        }
        MoustacheState x = Checks.sample();
        x.tray(0, 0, 4);
        Checks.gives("20: just enough", x, x.copyLengths(0), 4);
        Checks.due("20: the last", x.read(0, 3), 7);
        Checks.due("20: the first", x.read(0, 0), 10);
        MoustacheState y = Checks.sample();
        y.tray(0, 0, 3);
        Checks.due("20: too few", y.copyLengths(0), -1);
        Checks.due("20: nothing is copied", y.read(0, 0), 0);
        Checks.refuses("20: MISSING", Checks::busy, z -> z.copyLengths(3), 3);
        Checks.refuses("20: too few", Checks::busy, z -> z.copyLengths(1), 4);
    }

    private static void wrongCalls() {
        for (int w : WRONG) {
            Checks.refuses("13: many(" + w + ")", Checks::busy, x -> x.many(w), 5);
            Checks.refuses("14: no such HAIR", Checks::busy, x -> x.hair(w, w), 2);
            Checks.refuses("14: nothing such of a HAIR", Checks::busy, x -> x.hair(0, w), 5);
            Checks.refuses("15: no such PARTY", Checks::busy, x -> x.party(w, w), 2);
            Checks.refuses("15: nothing such of a PARTY", Checks::busy, x -> x.party(0, w), 5);
            Checks.refuses("17: no such RULER", Checks::busy, x -> x.lip(w), 2);
            Checks.refuses("18: no such LOOK", Checks::busy, x -> x.look(w, 0), 2);
            Checks.refuses("18: no such HAIR", Checks::busy, x -> x.look(0, w), 2);
            Checks.refuses("19: no such PAIR", Checks::busy, x -> x.pair(w, w), 2);
            Checks.refuses("19: nothing such of a PAIR", Checks::busy, x -> x.pair(0, w), 5);
            Checks.refuses("20: no such TRAY", Checks::busy, x -> x.copyLengths(w), 1);
        }
        Checks.refuses("13: many(16)", Checks::busy, x -> x.many(16), 5);
        Checks.refuses("14: a fifth HAIR", Checks::busy, x -> x.hair(4, 0), 2);
        Checks.refuses("14: hair(0, 4)", Checks::busy, x -> x.hair(0, 4), 5);
        Checks.refuses("15: a fourth PARTY", Checks::busy, x -> x.party(3, 0), 2);
        Checks.refuses("15: party(0, 2)", Checks::busy, x -> x.party(0, 2), 5);
        Checks.refuses("17: a third RULER", Checks::busy, x -> x.lip(2), 2);
        Checks.refuses("18: a fourth LOOK", Checks::busy, x -> x.look(3, 0), 2);
        Checks.refuses("18: a fifth HAIR", Checks::busy, x -> x.look(0, 4), 2);
        Checks.refuses("19: a fourth PAIR", Checks::busy, x -> x.pair(3, 0), 2);
        Checks.refuses("19: pair(0, 2)", Checks::busy, x -> x.pair(0, 2), 5);
        Checks.refuses("20: a fifth TRAY", Checks::busy, x -> x.copyLengths(4), 1);
    }
}
