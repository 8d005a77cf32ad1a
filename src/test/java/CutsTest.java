/** Promises 44 to 57. */
public final class CutsTest {
    private static final int[] WRONG = {-1, 1000, Integer.MIN_VALUE, Integer.MAX_VALUE};
    private static final String FOUR = "hair a length 7;hair b length 5;hair c length 5;hair d length 3;";

    public static void main(String[] args) {
        poll();
        passes();
        shortest();
        divided();
        seen();
        wrongSeen();
        paired();
        watches();
        game();
        moveOf();
        legible();
        share();
        wrongCuts();
        wrongGames();
        Checks.end();
    }

    private static void poll() {
        MoustacheState x = Checks.sample();
        Checks.gives("44: poll(2, 12)", x, x.poll(2, 12), 15);
        Checks.gives("44: poll(3, 0)", x, x.poll(3, 0), -65);
        Checks.gives("44: poll(3, 5)", x, x.poll(3, 5), -5);
        Checks.gives("44: one neither way", x, x.poll(3, 3), -35);
        MoustacheState one = Checks.of("hair a length 9;party p seats 3 wants 5;party q seats 4 wants 20;");
        Checks.gives("44: -1 with STATUS 0", one, one.poll(0, 4), -1);
        Checks.gives("44: nothing is trimmed", one, one.hair(0, 0), 9);
        MoustacheState none = Checks.of("hair a length 9;");
        Checks.gives("44: without PARTIES", none, none.poll(0, 4), 0);
        Checks.refuses("44: as long", Checks::sample, y -> y.poll(2, 30), 9);
        Checks.refuses("44: shorter", Checks::sample, y -> y.poll(2, 99), 9);
    }

    private static void passes() {
        MoustacheState x = Checks.sample();
        // HAIR 0 is 10 long: whigs (30 SEATS, want 5) are nearer from 1 on, tories (25) and mob (10) always farther.
        Checks.refuses("45: none would", Checks::sample, y -> y.passes(0), 8);
        // HAIR 1 is 20 long: whigs are always nearer, tories farther; mob (wants 12) is farther up to 3, nearer from 5 on.
        Checks.gives("45: by whigs alone", x, x.passes(1), 4);
        x.elect(0, 20);
        Checks.gives("45: by whigs and mob", x, x.passes(1), 5);
        x.elect(0, 36);
        Checks.gives("45: against mob, too", x, x.passes(1), 0);
        x.elect(0, 40);
        Checks.gives("45: passes(0)", x, x.passes(0), 1);
        Checks.gives("45: nothing is trimmed", x, x.many(14), 67);
        Checks.refuses("45: none of 0", () -> Checks.of("hair a length 0;party p seats 1 wants 0;"), y -> y.passes(0), 8);
        Checks.refuses("45: without PARTIES", () -> Checks.of("hair a length 9;"), y -> y.passes(0), 8);
    }

    private static void shortest() {
        MoustacheState x = Checks.of(FOUR);
        int[] length = {999, 20, 19, 17, 16, 15, 13, 12, 11, 10, 8, 7, 5, 4, 3, 2, 0};
        int[] many = {0, 0, 1, 1, 1, 1, 1, 2, 2, 2, 2, 3, 3, 3, 3, 4, 4};
        int[] set = {0, 0, 1, 1, 1, 1, 1, 3, 3, 3, 3, 7, 7, 7, 7, 15, 15};
        for (int i = 0; i < length.length; i++) {
            Checks.gives("46: shortest(" + length[i] + ")", x, x.shortest(length[i]), many[i]);
            Checks.gives("47: shortestSet(" + length[i] + ")", x, x.shortestSet(length[i]), set[i]);
        }
        MoustacheState y = Checks.of("hair a length 1;hair b length 9;hair c length 0;hair d length 9;hair e length 8;");
        Checks.gives("47: the least of those that do", y, y.shortestSet(18), 2);
        Checks.gives("47: the least of those that do", y, y.shortestSet(9), 10);
        Checks.gives("46: HAIRS of 0 are not trimmed", y, y.shortest(0), 4);
        Checks.gives("47: HAIRS of 0 are not trimmed", y, y.shortestSet(0), 27);
        Checks.gives("46: nothing is trimmed", y, y.many(14), 27);
    }

    private static void divided() {
        MoustacheState x = Checks.of(FOUR);
        Checks.gives("48: divided()", x, x.divided(), 6);
        Checks.gives("49: dividedBy()", x, x.dividedBy(), 0);
        MoustacheState odd = Checks.of("hair a length 9;hair b length 2;hair c length 4;");
        Checks.gives("48: the least of two", odd, odd.divided(), 1);
        Checks.gives("49: dividedBy()", odd, odd.dividedBy(), 3);
        MoustacheState zero = Checks.of("hair a length 0;hair b length 0;");
        Checks.gives("48: of nothing", zero, zero.divided(), 0);
        MoustacheState one = Checks.of("hair a length 5;");
        Checks.gives("48: of one", one, one.divided(), 0);
        Checks.gives("49: of one", one, one.dividedBy(), 5);
        MoustacheState none = new MoustacheState();
        Checks.gives("48: of none", none, none.divided(), 0);
        Checks.gives("49: of none", none, none.dividedBy(), 0);
    }

    private static MoustacheState watched(int sort, long... numbers) {
        MoustacheState x = Checks.sample();
        x.tray(1, sort, numbers.length);
        for (int i = 0; i < numbers.length; i++) {
            x.write(1, i, numbers[i]);
        }
        return x;
    }

    private static void seen() {
        MoustacheState x = watched(3, 0, 10, 3, 19, 200, 99, 1, 12, -1, 100);
        int[] due = {15, 1, 1, 1, 0};
        for (int n = 0; n < due.length; n++) {
            Checks.gives("50: seen(1, " + n + ")", x, x.seen(1, n), due[n]);
        }
        MoustacheState all = watched(1, 200, 99);
        Checks.gives("50: all of them", all, all.seen(1, 1), 15);
        MoustacheState some = watched(2, 3, 19, 0, 7, 0, 20);
        Checks.gives("50: two of them", some, some.seen(1, 1), 9);
        Checks.gives("50: for all twos", some, some.seen(1, 2), 8);
        Checks.gives("50: none of them", some, some.seen(1, 3), 0);
        long[] forty = new long[40];
        for (int i = 0; i < 40; i += 2) {
            forty[i] = i;
            forty[i + 1] = Math.min(99, 30 + i);
        }
        MoustacheState many = watched(3, forty);
        Checks.gives("50: twenty twos", many, many.seen(1, 20), 4);
        MoustacheState none = new MoustacheState();
        none.tray(0, 0, 2);
        Checks.gives("50: of none", none, none.seen(0, 1), 0);
    }

    private static void wrongSeen() {
        for (int w : new int[] {-1, 4, Integer.MIN_VALUE, Integer.MAX_VALUE}) {
            Checks.refuses("50: no such TRAY", Checks::busy, x -> x.seen(w, w), 1);
        }
        Checks.refuses("50: MISSING", Checks::busy, x -> x.seen(2, 99), 3);
        Checks.refuses("50: too few", Checks::busy, x -> x.seen(1, 2), 4);
        Checks.refuses("50: too few of very many", Checks::busy, x -> x.seen(1, Integer.MAX_VALUE), 4);
        Checks.refuses("50: too few when twos wrap around", Checks::busy, x -> x.seen(1, 1 << 30), 4);
        Checks.refuses("50: below 0", Checks::busy, x -> x.seen(0, -1), 5);
        Checks.refuses("50: far below 0", Checks::busy, x -> x.seen(0, Integer.MIN_VALUE), 5);
        Checks.refuses("50: 21", () -> watched(0, new long[60]), x -> x.seen(1, 21), 5);
        Checks.refuses("50: too few ahead of 21", () -> watched(0, new long[41]), x -> x.seen(1, 21), 4);
        long[][] bad = {{-1, 10}, {201, 10}, {0, -1}, {0, 100}, {0, 10, Long.MIN_VALUE, 3}, {0, 10, 3, 1L << 32}, {1L << 32, 10}};
        for (long[] numbers : bad) {
            Checks.refuses("50: a number in the TRAY", () -> watched(3, numbers), x -> x.seen(1, numbers.length / 2), 5);
        }
        MoustacheState x = watched(3, 0, 10, -1, -1);
        Checks.gives("50: only the first are looked at", x, x.seen(1, 1), 1);
    }

    private static void paired() {
        MoustacheState x = Checks.sample();
        Checks.gives("51: paired()", x, x.paired(), 2);
        Checks.gives("52: pairedSet()", x, x.pairedSet(), 3);
        MoustacheState six = Checks.of("barber a;barber b;barber c;barber d;barber e;barber f;"
                + "pair a b;pair b c;pair c d;pair d e;pair e f;pair f a;pair a d;");
        Checks.gives("51: three of six", six, six.paired(), 3);
        Checks.gives("52: the least of two", six, six.pairedSet(), 21);
        MoustacheState star = Checks.of("barber a;barber b;barber c;barber d;pair b a;pair a b;pair a c;pair d a;");
        Checks.gives("51: a star", star, star.paired(), 3);
        Checks.gives("52: a star", star, star.pairedSet(), 13);
        String alone = "barber a;barber b;barber c;pair a b;";
        Checks.refuses("51: somebody is in none", () -> Checks.of(alone), MoustacheState::paired, 8);
        Checks.refuses("52: somebody is in none", () -> Checks.of(alone), MoustacheState::pairedSet, 8);
        Checks.refuses("51: one alone", () -> Checks.of("barber a;"), MoustacheState::paired, 8);
        MoustacheState none = new MoustacheState();
        Checks.gives("51: nobody", none, none.paired(), 0);
        Checks.gives("52: nobody", none, none.pairedSet(), 0);
        MoustacheState ten = Checks.of("barber a;barber b;barber c;barber d;" + "pair a b;".repeat(9) + "pair d c;");
        Checks.gives("52: the tenth PAIR", ten, ten.pairedSet(), 513);
    }

    private static void watches() {
        MoustacheState x = Checks.of("barber a;barber b;barber c;barber d;pair a b;pair c a;pair a b;pair c b;");
        int[] due = {6, 5, 3, 0};
        for (int b = 0; b < 4; b++) {
            Checks.gives("53: watches(" + b + ")", x, x.watches(b), due[b]);
        }
    }

    private static void game() {
        MoustacheState x = Checks.sample();
        Checks.gives("54: game(0)", x, x.game(0), 10 + 20 - 30 - 7);
        // HAIR 2 is trimmed to 0 and grows 1.
        Checks.gives("54: game(1)", x, x.game(1), 13 + 22 - 1 - 11);
        // then HAIR 1 (20 + 4) is trimmed to 0 and grows 2.
        Checks.gives("54: game(2)", x, x.game(2), 16 + 2 - 2 - 15);
        Checks.gives("54: nothing is trimmed", x, x.many(14), 67);
        Checks.gives("54: nothing goes by", x, x.many(8), 0);
        MoustacheState minus = Checks.of("hair a length 1 grows 0;hair b length 2 grows 0;");
        Checks.gives("54: -1 with STATUS 0", minus, minus.game(0), -1);
        MoustacheState odd = Checks.of("hair a length 5 grows 0;hair b length 6 grows 0;hair c length 7 grows 0;");
        Checks.gives("54: half rounded down", odd, odd.game(0), 5 - 6 - 7);
        Checks.gives("54: odd game(1)", odd, odd.game(1), 5 - 6);
        Checks.gives("54: odd game(2)", odd, odd.game(2), 0 - 6);
        Checks.gives("54: odd game(3)", odd, odd.game(3), 0);
        MoustacheState one = Checks.of("hair a length 5;");
        Checks.gives("54: one HAIR is of the others", one, one.game(0), -5);
        Checks.gives("54: one HAIR game(2)", one, one.game(2), -2);
        MoustacheState late = Checks.of("hair a length 3 grows 9;hair b length 20 grows 1;hair c length 5 grows 9;hair d length 19 grows 0;ruler r lip 9;");
        Checks.gives("54: game(3)", late, late.game(3), played(new int[] {3, 20, 5, 19}, new int[] {18, 10, 18, 9}, 0, 3));
        MoustacheState high = Checks.of("hair a length 99 grows 9;hair b length 98 grows 9;hair c length 99 grows 9;hair d length 97 grows 0;hair e length 97 grows 0;");
        Checks.gives("54: 99 at most", high, high.game(3), played(new int[] {99, 98, 99, 97, 97}, new int[] {9, 9, 9, 0, 0}, 0, 3));
        MoustacheState none = new MoustacheState();
        Checks.gives("54: of none", none, none.game(3), 0);
    }

    /** By the words: each trim, each DAY. */
    private static int played(int[] lengths, int[] growth, int turn, int turns) {
        int worth = 0;
        if (turn == turns) {
            for (int h = 0; h < lengths.length; h++) {
                worth += h < lengths.length / 2 ? lengths[h] : -lengths[h];
            }
            return worth;
        }
        for (int move = 0; move <= lengths.length; move++) {
            int[] then = lengths.clone();
            if (move < lengths.length) {
                then[move] = 0;
            }
            for (int h = 0; h < then.length; h++) {
                then[h] = Math.min(99, then[h] + growth[h]);
            }
            int is = played(then, growth, turn + 1, turns);
            worth = move == 0 ? is : turn % 2 == 0 ? Math.max(worth, is) : Math.min(worth, is);
        }
        return worth;
    }

    private static void moveOf() {
        MoustacheState x = Checks.sample();
        Checks.gives("55: moveOf(1)", x, x.moveOf(1), 2);
        Checks.gives("55: moveOf(3)", x, x.moveOf(3), 2);
        MoustacheState alike = Checks.of("hair a length 5;hair b length 6;hair c length 7;hair d length 7;");
        Checks.gives("55: the first of as good ones", alike, alike.moveOf(1), 2);
        MoustacheState zero = Checks.of("hair a length 0;hair b length 0;");
        Checks.gives("55: none comes last", zero, zero.moveOf(1), 0);
        MoustacheState others = Checks.of("hair a length 5;hair b length 0;");
        Checks.gives("55: as good as none", others, others.moveOf(1), 1);
        Checks.gives("55: nothing is trimmed", others, others.many(14), 5);
        Checks.refuses("55: none", MoustacheState::new, y -> y.moveOf(1), 8);
        Checks.refuses("55: none by three turns", MoustacheState::new, y -> y.moveOf(3), 8);
    }

    private static void legible() {
        MoustacheState x = Checks.sample();
        Checks.fraction("56: legible(0, 0)", x, x.legible(0, 0), 81, 256);
        Checks.fraction("56: legible(0, 1)", x, x.legible(0, 1), 189, 256);
        Checks.fraction("56: legible(0, 3)", x, x.legible(0, 3), 255, 256);
        Checks.fraction("56: legible(0, 4)", x, x.legible(0, 4), 1, 1);
        Checks.fraction("56: legible(1, 0)", x, x.legible(1, 0), 9, 16);
        Checks.fraction("56: legible(2, 1)", x, x.legible(2, 1), 15, 16);
        Checks.fraction("56: legible(2, 8)", x, x.legible(2, 8), 1, 1);
        x.rule(6, 16);
        Checks.fraction("56: all are ruffled", x, x.legible(0, 3), 0, 1);
        Checks.fraction("56: all are ruffled", x, x.legible(0, 4), 1, 1);
        x.rule(6, 0);
        Checks.fraction("56: none is ruffled", x, x.legible(0, 0), 1, 1);
        MoustacheState eight = Checks.of("odds 3;hair a length 1;hair b length 1;hair c length 1;hair d length 1;hair e length 1;hair f length 1;"
                + "hair g length 1;hair h length 1;look all up up up up up up up up;look none;");
        Checks.fraction("56: of eight", eight, eight.legible(0, 0), 815730721L, 4294967296L);
        Checks.fraction("56: but one", eight, eight.legible(0, 7), 4294967296L - 6561, 4294967296L);
        Checks.fraction("56: nothing told", eight, eight.legible(1, 0), 1, 1);
    }

    private static void share() {
        MoustacheState x = Checks.sample();
        Checks.fraction("57: share(0)", x, x.share(0), 6, 13);
        Checks.fraction("57: share(1)", x, x.share(1), 5, 13);
        Checks.fraction("57: share(2)", x, x.share(2), 2, 13);
        MoustacheState one = Checks.of("party p seats 7 wants 1;");
        Checks.fraction("57: the only one", one, one.share(0), 1, 1);
    }

    private static void wrongCuts() {
        for (int w : WRONG) {
            Checks.refuses("44: no such HAIR", Checks::busy, x -> x.poll(w, w), 2);
            Checks.refuses("44: poll(0, " + w + ")", Checks::busy, x -> x.poll(0, w), 5);
            Checks.refuses("45: no such HAIR", Checks::busy, x -> x.passes(w), 2);
            Checks.refuses("46: shortest(" + w + ")", Checks::busy, x -> x.shortest(w), 5);
            Checks.refuses("47: shortestSet(" + w + ")", Checks::busy, x -> x.shortestSet(w), 5);
            Checks.refuses("53: no such BARBER", Checks::busy, x -> x.watches(w), 2);
        }
        Checks.refuses("44: a fifth HAIR", Checks::busy, x -> x.poll(4, 0), 2);
        Checks.refuses("44: poll(0, 100)", Checks::busy, x -> x.poll(0, 100), 5);
        Checks.refuses("45: a fifth HAIR", Checks::busy, x -> x.passes(4), 2);
        Checks.refuses("53: a fourth BARBER", Checks::busy, x -> x.watches(3), 2);
    }

    private static void wrongGames() {
        for (int w : WRONG) {
            Checks.refuses("54: game(" + w + ")", Checks::busy, x -> x.game(w), 5);
            Checks.refuses("55: moveOf(" + w + ")", Checks::busy, x -> x.moveOf(w), 5);
            Checks.denies("56: no such LOOK", Checks::busy, x -> x.legible(w, w), 2);
            Checks.denies("56: legible(0, " + w + ")", Checks::busy, x -> x.legible(0, w), 5);
            Checks.denies("57: no such PARTY", Checks::busy, x -> x.share(w), 2);
        }
        Checks.refuses("54: game(4)", Checks::busy, x -> x.game(4), 5);
        Checks.refuses("55: moveOf(0)", Checks::busy, x -> x.moveOf(0), 5);
        Checks.refuses("55: moveOf(0) of none", MoustacheState::new, x -> x.moveOf(0), 5);
        Checks.refuses("55: moveOf(4)", Checks::busy, x -> x.moveOf(4), 5);
        Checks.denies("56: a fourth LOOK", Checks::busy, x -> x.legible(3, 0), 2);
        Checks.denies("56: legible(0, 9)", Checks::busy, x -> x.legible(0, 9), 5);
        Checks.denies("57: a fourth PARTY", Checks::busy, x -> x.share(3), 2);
    }
}
