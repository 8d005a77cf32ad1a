/** Promises 44 to 57 at their bounds. */
final class BoundsOfCuts {
    private static final String SIX = "barber a;barber b;barber c;barber d;barber e;barber f;";

    private BoundsOfCuts() {
    }

    static void all() {
        poll();
        passes();
        shortest();
        shortestOfMost();
        divided();
        seen();
        seenNumbers();
        paired();
        pairedOfMost();
        watches();
        game();
        moveOf();
        legible();
        share();
    }

    private static MoustacheState eight(int length) {
        MoustacheState x = Checks.of("party p seats 5 wants 0;");
        for (int h = 0; h < 8; h++) {
            x.graft(length, 1);
        }
        return x;
    }

    private static void poll() {
        Bounds.takes("44: HAIR", () -> eight(5), (x, h) -> x.poll(h, 0), 0, 7, 2);
        Checks.refuses("44: HAIR 0 of none", MoustacheState::new, x -> x.poll(0, 0), 2);
        Checks.refuses("44: length -1", () -> eight(99), x -> x.poll(7, -1), 5);
        Checks.refuses("44: length 100", () -> eight(99), x -> x.poll(7, 100), 5);
        Checks.refuses("44: as long as it is", () -> eight(99), x -> x.poll(7, 99), 9);
        Checks.refuses("44: 0 as it is", () -> eight(0), x -> x.poll(7, 0), 9);
        Checks.refuses("44: longer than it is", () -> eight(0), x -> x.poll(7, 99), 9);
        Checks.refuses("44: 2 ahead of 5", () -> eight(0), x -> x.poll(8, 100), 2);
        Checks.refuses("44: 5 ahead of 9", () -> eight(0), x -> x.poll(7, 100), 5);
        MoustacheState x = eight(99);
        Checks.gives("44: to 98", x, x.poll(7, 98), 5);
        Checks.gives("44: to 0", x, x.poll(0, 0), 5);
        MoustacheState most = Checks.of("hair a length 50;party p seats 99 wants 0;party q seats 99 wants 0;party r seats 99 wants 0;"
                + "party s seats 99 wants 0;party t seats 99 wants 0;");
        Checks.gives("44: the most for it", most, most.poll(0, 49), 495);
        MoustacheState least = Checks.of("hair a length 50;party p seats 99 wants 99;party q seats 99 wants 99;party r seats 99 wants 99;"
                + "party s seats 99 wants 99;party t seats 99 wants 99;");
        Checks.gives("44: the most against it", least, least.poll(0, 49), -495);
        MoustacheState one = Checks.of("hair a length 50;party p seats 1 wants 50;");
        Checks.gives("44: -1 with STATUS 0", one, one.poll(0, 49), -1);
        one.poll(0, 50);
        Checks.due("44: NONE with another", one.status(), 9);
    }

    private static void passes() {
        Bounds.takes("45: HAIR", () -> eight(5), (x, h) -> x.passes(h), 0, 7, 2);
        Checks.refuses("45: HAIR 0 of none", MoustacheState::new, x -> x.passes(0), 2);
        Checks.refuses("45: of a HAIR of 0", () -> eight(0), x -> x.passes(7), 8);
        Checks.refuses("45: without PARTIES", () -> Checks.of("hair a length 99;"), x -> x.passes(0), 8);
        Checks.refuses("45: as long as it is wanted", () -> Checks.of("hair a length 50;party p seats 1 wants 50;"), x -> x.passes(0), 8);
        Checks.refuses("45: shorter than it is wanted", () -> Checks.of("hair a length 49;party p seats 1 wants 50;"), x -> x.passes(0), 8);
        MoustacheState one = Checks.of("hair a length 1;party p seats 1 wants 0;");
        Checks.gives("45: to 0", one, one.passes(0), 0);
        MoustacheState last = Checks.of("hair a length 99;party p seats 1 wants 98;");
        Checks.gives("45: to the last length", last, last.passes(0), 98);
        MoustacheState middle = Checks.of("hair a length 99;party p seats 1 wants 60;");
        Checks.gives("45: 21 is neither nearer nor farther", middle, middle.passes(0), 22);
    }

    private static void shortest() {
        Bounds.takes("46: length", Bounds::full, (x, length) -> x.shortest(length), 0, 999, 5);
        Bounds.takes("47: length", Bounds::full, (x, length) -> x.shortestSet(length), 0, 999, 5);
        Bounds.takes("46: length, of none", MoustacheState::new, (x, length) -> x.shortest(length), 0, 999, 5);
        MoustacheState none = new MoustacheState();
        Checks.gives("46: of none", none, none.shortest(0), 0);
        Checks.gives("47: of none", none, none.shortestSet(0), 0);
        MoustacheState x = Checks.of(Bounds.FULL);
        for (int length : new int[] {999, 308, 307, 209, 208, 160, 159, 158, 111, 110, 62, 61, 60, 28, 27, 8, 7, 2, 1, 0}) {
            int set = fewest(Bounds.FULL_LENGTHS, length);
            Checks.gives("46: to " + length, x, x.shortest(length), Integer.bitCount(set));
            Checks.gives("47: to " + length, x, x.shortestSet(length), set);
        }
        Checks.gives("46: no more than all", x, x.shortest(308), 0);
        Checks.gives("46: one too long", x, x.shortest(307), 1);
        Checks.gives("47: HAIR 1 is the first that does", x, x.shortestSet(307), 2);
        Checks.gives("47: HAIR 0 is of no use", x, x.shortestSet(0), 254);
    }

    /** The set by the words. */
    private static int fewest(int[] lengths, int length) {
        int best = -1;
        for (int set = 0; set < 1 << lengths.length; set++) {
            int left = 0;
            for (int h = 0; h < lengths.length; h++) {
                left += (set >> h & 1) == 0 ? lengths[h] : 0;
            }
            if (left <= length && (best < 0 || Integer.bitCount(set) < Integer.bitCount(best))) {
                best = set;
            }
        }
        return best;
    }

    private static void shortestOfMost() {
        MoustacheState x = eight(99);
        for (int left = 0; left <= 8; left++) {
            int set = (1 << 8 - left) - 1;
            Checks.gives("46: just " + left + " of eight", x, x.shortest(99 * left), 8 - left);
            Checks.gives("47: just " + left + " of eight", x, x.shortestSet(99 * left), set);
            if (left < 8) {
                Checks.gives("46: one less than " + (left + 1), x, x.shortest(99 * left + 98), 8 - left);
            }
        }
        MoustacheState zero = eight(0);
        Checks.gives("46: of eight that are 0", zero, zero.shortest(0), 0);
        Checks.gives("47: of eight that are 0", zero, zero.shortestSet(0), 0);
    }

    private static void divided() {
        MoustacheState none = new MoustacheState();
        Checks.gives("48: of none", none, none.divided(), 0);
        Checks.gives("49: of none", none, none.dividedBy(), 0);
        MoustacheState one = Checks.of("hair a length 99;");
        Checks.gives("48: of one", one, one.divided(), 0);
        Checks.gives("49: of one", one, one.dividedBy(), 99);
        MoustacheState two = Checks.of("hair a length 99;hair b length 98;");
        Checks.gives("48: of two", two, two.divided(), 1);
        Checks.gives("49: of two", two, two.dividedBy(), 1);
        MoustacheState zero = eight(0);
        Checks.gives("48: of eight that are 0", zero, zero.divided(), 0);
        Checks.gives("49: of eight that are 0", zero, zero.dividedBy(), 0);
        MoustacheState most = eight(99);
        Checks.gives("48: of eight that are 99", most, most.divided(), 15);
        Checks.gives("49: of eight that are 99", most, most.dividedBy(), 0);
        MoustacheState last = Checks.of("hair a length 9;hair b length 9;hair c length 9;hair d length 9;hair e length 9;hair f length 9;"
                + "hair g length 9;hair h length 63;");
        Checks.gives("48: the last against all others", last, last.divided(), 127);
        Checks.gives("49: the last against all others", last, last.dividedBy(), 0);
    }

    private static MoustacheState withTray(int sort, int places) {
        MoustacheState x = Bounds.full();
        x.tray(2, sort, places);
        return x;
    }

    private static void seen() {
        Bounds.takes("50: TRAY", () -> {
            MoustacheState x = Bounds.full();
            for (int tray = 0; tray < 4; tray++) {
                x.tray(tray, tray, 60);
            }
            return x;
        }, (x, tray) -> x.seen(tray, 20), 0, 3, 1);
        Checks.refuses("50: MISSING", MoustacheState::new, x -> x.seen(0, 0), 3);
        Checks.refuses("50: 1 ahead of all", MoustacheState::new, x -> x.seen(4, 99), 1);
        Checks.refuses("50: 3 ahead of 5", MoustacheState::new, x -> x.seen(3, -1), 3);
        Checks.refuses("50: -1 of sixty places", () -> withTray(0, 60), x -> x.seen(2, -1), 5);
        Checks.refuses("50: 21 of sixty places", () -> withTray(0, 60), x -> x.seen(2, 21), 5);
        Bounds.takes("50: twos of forty places", () -> withTray(3, 40), (x, n) -> x.seen(2, n), 0, 20, 5, 4);
        Bounds.takes("50: twos of 41 places", () -> withTray(3, 41), (x, n) -> x.seen(2, n), 0, 20, 5, 4);
        Bounds.takes("50: twos of 39 places", () -> withTray(1, 39), (x, n) -> x.seen(2, n), 0, 19, 5, 4);
        Bounds.takes("50: twos of two places", () -> withTray(1, 2), (x, n) -> x.seen(2, n), 0, 1, 5, 4);
        Bounds.takes("50: twos of one place", () -> withTray(1, 1), (x, n) -> x.seen(2, n), 0, 0, 5, 4);
        Bounds.takes("50: twos of no place", () -> withTray(1, 0), (x, n) -> x.seen(2, n), 0, 0, 5, 4);
        Checks.refuses("50: thirty of sixty places", () -> withTray(2, 60), x -> x.seen(2, 30), 5);
        Checks.refuses("50: 31 of sixty places", () -> withTray(2, 60), x -> x.seen(2, 31), 4);
        MoustacheState x = withTray(0, 0);
        Checks.gives("50: all HAIRS by no twos", x, x.seen(2, 0), 255);
        MoustacheState none = new MoustacheState();
        none.tray(0, 0, 60);
        Checks.gives("50: no HAIRS", none, none.seen(0, 20), 0);
    }

    private static MoustacheState sight(int two, long days, long length) {
        MoustacheState x = withTray(3, 40);
        for (int i = 0; i < 20; i++) {
            x.write(2, 2 * i + 1, 99);
            x.write(2, 2 * i, 200);
        }
        x.write(2, 2 * two, days);
        x.write(2, 2 * two + 1, length);
        return x;
    }

    /** The ends of DAYS and of lengths, in the first two and in the last; behind the last no number matters. */
    private static void seenNumbers() {
        for (int two = 0; two < 20; two += 19) {
            int at = two;
            long[][] wrong = {{-1, 99}, {201, 99}, {200, -1}, {200, 100}, {Long.MIN_VALUE, 99}, {Long.MAX_VALUE, 99}, {200, Long.MIN_VALUE},
                {200, Long.MAX_VALUE}, {1L << 32, 99}, {200, (1L << 32) + 99}, {-1, -1}};
            for (long[] pair : wrong) {
                Checks.refuses("50: a number in a TRAY", () -> sight(at, pair[0], pair[1]), x -> x.seen(2, 20), 5);
            }
            Checks.refuses("50: too few numbers ahead of a wrong one", () -> sight(at, -1, -1), x -> x.seen(2, 21), 4);
            MoustacheState x = sight(at, 0, 99);
            Checks.gives("50: in 0 DAYS 99", x, x.seen(2, 20), 2);
            x = sight(at, 0, 0);
            Checks.gives("50: in 0 DAYS 0: none grows so", x, x.seen(2, 20), 0);
            x = sight(at, 200, 99);
            Checks.gives("50: in 200 DAYS 99", x, x.seen(2, 20), 2 + 4 + 8 + 16 + 64 + 128);
        }
        MoustacheState behind = sight(19, -1, 100);
        Checks.gives("50: the first 19 alone", behind, behind.seen(2, 19), 2 + 4 + 8 + 16 + 64 + 128);
        MoustacheState other = withTray(0, 3);
        other.write(2, 2, -1);
        Checks.gives("50: in 0 DAYS 0", other, other.seen(2, 1), 1);
        Checks.gives("50: a third number is no two", other, other.seen(2, 1), 1);
        MoustacheState hung = Checks.of("hair a length 5 grows 0;hair b length 6 grows 0;");
        hung.tray(0, 1, 2);
        hung.write(0, 0, 200);
        hung.write(0, 1, 5);
        Checks.gives("50: no longer and no shorter", hung, hung.seen(0, 1), 1);
    }

    private static void paired() {
        MoustacheState none = new MoustacheState();
        Checks.gives("51: nobody", none, none.paired(), 0);
        Checks.gives("52: nobody", none, none.pairedSet(), 0);
        String[] alone = {"barber a;", "barber a;barber b;", "barber a;barber b;barber c;pair a b;", SIX + "pair a b;pair b c;pair c d;pair d e;",
            SIX + "pair f b;pair b c;pair c d;pair d e;"};
        for (String text : alone) {
            Checks.refuses("51: somebody is in no PAIR", () -> Checks.of(text), MoustacheState::paired, 8);
            Checks.refuses("52: somebody is in no PAIR", () -> Checks.of(text), MoustacheState::pairedSet, 8);
        }
        MoustacheState two = Checks.of("barber a;barber b;pair b a;");
        Checks.gives("51: two", two, two.paired(), 1);
        Checks.gives("52: two", two, two.pairedSet(), 1);
        MoustacheState again = Checks.of("barber a;barber b;pair a b;pair b a;");
        Checks.gives("51: told again", again, again.paired(), 1);
        Checks.gives("52: told again", again, again.pairedSet(), 1);
    }

    private static void pairedOfMost() {
        MoustacheState full = Checks.of(Bounds.FULL);
        Checks.gives("51: six with ten PAIRS", full, full.paired(), 3);
        Checks.gives("52: six with ten PAIRS", full, full.pairedSet(), 1 + 4 + 16);
        MoustacheState star = Checks.of(SIX + "pair a b;".repeat(6) + "pair a c;pair a d;pair a e;pair f a;");
        Checks.gives("51: one with each other", star, star.paired(), 5);
        Checks.gives("52: one with each other", star, star.pairedSet(), 1 + 64 + 128 + 256 + 512);
        MoustacheState fewer = Checks.of("barber a;barber b;barber c;barber d;pair a b;pair a c;pair a d;pair c d;");
        Checks.gives("51: two rather than the first three", fewer, fewer.paired(), 2);
        Checks.gives("52: two rather than the first three", fewer, fewer.pairedSet(), 1 + 8);
        MoustacheState last = Checks.of(SIX + "pair a b;pair a c;pair b c;pair a c;pair b a;pair c a;pair c b;pair a b;pair c d;pair e f;");
        Checks.gives("51: the last two", last, last.paired(), 3);
        Checks.gives("52: the last two", last, last.pairedSet(), 1 + 256 + 512);
    }

    private static void watches() {
        Bounds.oneOf("53: BARBER", (x, b) -> x.watches(b), 6);
        MoustacheState x = Checks.of(Bounds.FULL);
        int[] due = {2 + 32 + 4, 1 + 4 + 8, 2 + 8 + 1, 4 + 16 + 2 + 32, 8 + 32, 16 + 1 + 8};
        for (int b = 0; b < 6; b++) {
            Checks.gives("53: watches(" + b + ")", x, x.watches(b), due[b]);
        }
        MoustacheState alone = Checks.of(SIX + "pair a f;pair f d;");
        int[] few = {32, 0, 0, 32, 0, 1 + 8};
        for (int b = 0; b < 6; b++) {
            Checks.gives("53: in no PAIR, in one, in two", alone, alone.watches(b), few[b]);
        }
    }

    private static void game() {
        Bounds.takes("54: turns", Bounds::full, (x, turns) -> x.game(turns), 0, 3, 5);
        Bounds.takes("54: turns without HAIRS", MoustacheState::new, (x, turns) -> x.game(turns), 0, 3, 5);
        MoustacheState one = Checks.of("hair a length 1 grows 0;");
        Checks.gives("54: -1 with STATUS 0", one, one.game(0), -1);
        Checks.gives("54: the only HAIR is of the others", one, one.game(1), 0);
        one.game(4);
        Checks.due("54: NONE with another", one.status(), 5);
        MoustacheState most = eight(99);
        int[] due = {0, 99 - 1, 1 - 2, 3 * 99 + 2 - (1 + 3 + 2 * 99)};
        for (int turns = 0; turns <= 3; turns++) {
            Checks.gives("54: of eight in " + turns + " turns", most, most.game(turns), due[turns]);
        }
        MoustacheState five = Checks.of("hair a length 1 grows 0;hair b length 2 grows 0;hair c length 4 grows 0;hair d length 8 grows 0;"
                + "hair e length 16 grows 0;");
        int[] odd = {3 - 28, 3 - 12, 1 - 12, 1 - 4};
        for (int turns = 0; turns <= 3; turns++) {
            Checks.gives("54: of five in " + turns + " turns", five, five.game(turns), odd[turns]);
        }
        MoustacheState last = Bounds.onLastDay("hair a length 1;");
        Checks.gives("54: DAY 9,999 does not matter", last, last.game(3), -1);
    }

    private static void moveOf() {
        Bounds.takes("55: turns", Bounds::full, (x, turns) -> x.moveOf(turns), 1, 3, 5);
        for (int turns = 1; turns <= 3; turns++) {
            int so = turns;
            Checks.refuses("55: none", MoustacheState::new, x -> x.moveOf(so), 8);
        }
        Checks.refuses("55: 5 ahead of 8", MoustacheState::new, x -> x.moveOf(0), 5);
        Checks.refuses("55: 5 ahead of 8", MoustacheState::new, x -> x.moveOf(4), 5);
        MoustacheState one = Checks.of("hair a length 1;");
        Checks.gives("55: the only HAIR", one, one.moveOf(1), 0);
        MoustacheState last = Checks.of("hair a length 9;hair b length 9;hair c length 9;hair d length 9;hair e length 8;hair f length 8;"
                + "hair g length 8;hair h length 9;");
        Checks.gives("55: the last of eight", last, last.moveOf(1), 7);
        MoustacheState most = eight(99);
        Checks.gives("55: the first of the others", most, most.moveOf(1), 4);
        MoustacheState zero = Checks.of("hair a length 0 grows 0;hair b length 0 grows 0;hair c length 0 grows 0;");
        Checks.gives("55: of all that are as good the first", zero, zero.moveOf(1), 0);
    }

    private static void legible() {
        Bounds.oneOfGranted("56: LOOK", (x, look) -> x.legible(look, 0), 6);
        Bounds.grants("56: k", Bounds::full, (x, k) -> x.legible(5, k), 0, 8, 5);
        Checks.denies("56: 2 ahead of 5", Bounds::full, x -> x.legible(6, 9), 2);
        MoustacheState x = Checks.of(Bounds.FULL);
        for (int k = 0; k <= 8; k++) {
            x.rule(6, 16);
            Checks.fraction("56: all are ruffled, for " + k, x, x.legible(3, k), k == 8 ? 1 : 0, 1);
            Checks.fraction("56: nothing told, for " + k, x, x.legible(0, k), 1, 1);
            x.rule(6, 0);
            Checks.fraction("56: none is ruffled, for " + k, x, x.legible(3, k), 1, 1);
        }
        long[] odd = {1, 9, 37, 93, 163, 219, 247, 255, 256};
        x.rule(6, 8);
        for (int k = 0; k <= 8; k++) {
            Checks.fraction("56: by halves, for " + k, x, x.legible(3, k), k == 8 ? 1 : odd[k], k == 8 ? 1 : 256);
        }
        x.rule(6, 1);
        Checks.fraction("56: one told, for 0", x, x.legible(5, 0), 15, 16);
        Checks.fraction("56: one told, for 1", x, x.legible(5, 1), 1, 1);
        x.rule(6, 15);
        Checks.fraction("56: by 15, for 0", x, x.legible(3, 0), 1, 4294967296L);
        Checks.fraction("56: by 15, for 7", x, x.legible(3, 7), 4294967296L - 2562890625L, 4294967296L);
    }

    private static void share() {
        Bounds.oneOfGranted("57: PARTY", (x, p) -> x.share(p), 5);
        MoustacheState one = Checks.of("party a seats 99 wants 1;");
        Checks.fraction("57: the only one", one, one.share(0), 1, 1);
        MoustacheState x = Checks.of("party a seats 1 wants 1;party b seats 99 wants 1;party c seats 99 wants 1;party d seats 99 wants 1;"
                + "party e seats 99 wants 1;");
        Checks.fraction("57: the least", x, x.share(0), 1, 397);
        Checks.fraction("57: the last", x, x.share(4), 99, 397);
        x.elect(0, 99);
        Checks.fraction("57: all alike", x, x.share(4), 1, 5);
    }
}
