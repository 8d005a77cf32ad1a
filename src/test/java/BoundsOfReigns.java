/** Promises 58 to 62 at their bounds. */
final class BoundsOfReigns {
    private static final String ONE = "hair a length 50;";

    private BoundsOfReigns() {
    }

    static void all() {
        live();
        draws();
        missed();
        missedDays();
        tests();
        loops();
        howManySteps();
        lived();
        mean();
        marks();
        marksKeep();
        marksKeepTests();
        refusedLives();
    }

    /** What live() gives, then lived(0) to lived(4). */
    private static void account(String what, MoustacheState x, int seed, int... due) {
        Checks.gives("58: " + what, x, x.live(seed), due[0]);
        for (int i = 0; i < 5; i++) {
            Checks.gives("59: " + what + ": lived(" + i + ")", x, x.lived(i), due[i + 1]);
        }
    }

    private static void live() {
        Bounds.takes("58: seed", Bounds::full, (x, seed) -> x.live(seed), 0, 9999, 5);
        Checks.refuses("58: no REIGNS", Checks::sample, x -> x.live(0), 8);
        Checks.refuses("58: no REIGNS for the last seed", Checks::sample, x -> x.live(9999), 8);
        Checks.refuses("58: 5 ahead of 8", Checks::sample, x -> x.live(10000), 5);
        Checks.refuses("58: 5 ahead of 8", Checks::sample, x -> x.live(-1), 5);
        account("all of thirty STEPS", Checks.of(Bounds.FULL, Bounds.FULL_REIGNS), 0, 37, 0, 21, 31, 1, 0);
        account("no STEPS", Checks.of(ONE, ""), 0, 0, 0, 0, 0, 0, 0);
        MoustacheState none = new MoustacheState();
        Checks.reigns(none, "day 20;");
        account("a STATE of nothing", none, 9999, 1, 0, 20, 0, 0, 0);
        Checks.gives("58: the DAY", none, none.many(8), 20);
    }

    private static void draws() {
        for (int seed = 0; seed < 20; seed++) {
            drawn(seed, 1);
            drawn(seed, 8);
            drawn(9999 - seed, 1);
            drawn(9999 - seed, 8);
        }
        for (int seed = 20; seed < 9980; seed += 83) {
            drawn(seed, 3);
            drawn(seed, 7);
        }
        // 3 * 2,971 + 10,837 = 19,750; 19,750 * 2,971 + 10,837 by 65,536 leaves 33,367; that by 8 is 4,170, by 3 leaves 0.
        MoustacheState x = Checks.of(ONE, "any;");
        x.comb(0, 2);
        x.live(3);
        Checks.gives("58: the second draw of seed 3", x, x.hair(0, 2), 0);
    }

    /** Two any, against the draws by the words. */
    private static void drawn(int seed, int hairs) {
        MoustacheState x = new MoustacheState();
        for (int h = 0; h < hairs; h++) {
            x.graft(1, 1);
            x.comb(h, 2);
        }
        Checks.reigns(x, "any;any;");
        int[] stands = {2, 2, 2, 2, 2, 2, 2, 2};
        long s = seed;
        for (int i = 0; i < 2; i++) {
            s = (s * 2971 + 10837) % 65536;
            int hair = (int) (s / 8 % hairs);
            s = (s * 2971 + 10837) % 65536;
            stands[hair] = (int) (s / 8 % 3);
        }
        Checks.gives("58: by seed " + seed, x, x.live(seed), 2);
        for (int h = 0; h < hairs; h++) {
            Checks.gives("58: by seed " + seed + " HAIR " + h + " of " + hairs, x, x.hair(h, 2), stands[h]);
        }
    }

    private static void missed() {
        account("peace in PEACE", Checks.of(ONE, "peace;"), 0, 1, 1, 0, 0, 0, 0);
        account("war, then war", Checks.of(ONE, "war;war;"), 0, 2, 1, 0, 0, 0, 0);
        account("war, then peace", Checks.of(ONE, "war;peace;"), 0, 2, 0, 0, 0, 0, 0);
        account("a trim to one less", Checks.of(ONE, "trim a 49;"), 0, 1, 0, 0, 1, 0, 0);
        account("a trim to as long", Checks.of(ONE, "trim a 50;"), 0, 1, 1, 0, 0, 0, 0);
        account("a trim to more", Checks.of(ONE, "trim a 51;trim a 99;"), 0, 2, 2, 0, 0, 0, 0);
        account("a trim to 0, then to 0", Checks.of(ONE, "trim a 0;trim a 0;"), 0, 2, 1, 0, 50, 0, 0);
        String party = ONE + "party p seats 1 wants 40;";
        account("a vote to one less", Checks.of(party, "vote a 49;"), 0, 1, 0, 0, 1, 1, 0);
        account("a vote to as long", Checks.of(party, "vote a 50;"), 0, 1, 1, 0, 0, 0, 0);
        account("a vote to more", Checks.of(party, "vote a 99;"), 0, 1, 1, 0, 0, 0, 0);
        account("a vote that is neither nearer", Checks.of(party, "vote a 30;"), 0, 1, 1, 0, 0, 0, 0);
        account("a vote that is nearer by one", Checks.of(party, "vote a 31;"), 0, 1, 0, 0, 19, 1, 0);
        account("a vote without PARTIES", Checks.of(ONE, "vote a 0;"), 0, 1, 1, 0, 0, 0, 0);
        account("a hand without RULERS", Checks.of(ONE, "hand;"), 0, 1, 1, 0, 0, 0, 0);
        account("a hand with one RULER", Checks.of(ONE + "ruler p lip 0;", "hand;"), 0, 1, 1, 0, 0, 0, 0);
        account("a hand with two RULERS", Checks.of(ONE + "ruler p lip 0;ruler q lip 9;", "hand;hand;day 1;"), 0, 3, 1, 1, 0, 0, 0);
        account("any with one HAIR", Checks.of(ONE, "any;"), 0, 1, 0, 0, 0, 0, 0);
        account("any without HAIRS", Checks.of("", "any;any;"), 0, 2, 2, 0, 0, 0, 0);
        account("wax of 0 and 99 DAYS", Checks.of(ONE, "wax a 99;wax a 0;wax a 0;"), 0, 3, 0, 0, 0, 0, 0);
        MoustacheState waxed = Checks.of(ONE, "wax a 99;day 1;");
        waxed.live(0);
        Checks.gives("58: WAX", waxed, waxed.hair(0, 3), 98);
        Checks.gives("58: it holds", waxed, waxed.hair(0, 2), 1);
    }

    private static MoustacheState onDay(int day, String reigns) {
        MoustacheState x = Checks.of("hair a length 0;", reigns);
        int left = day;
        while (left > 0) {
            x.day(Math.min(99, left));
            left -= Math.min(99, left);
        }
        x.trim(0, 0);
        return x;
    }

    private static void missedDays() {
        account("to DAY 9,999", onDay(9979, "day 20;"), 0, 1, 0, 20, 0, 0, 0);
        account("a DAY beyond 9,999", onDay(9980, "day 20;"), 0, 1, 1, 0, 0, 0, 0);
        account("beyond 9,999, then not", onDay(9980, "day 20;day 19;day 1;"), 0, 3, 2, 19, 0, 0, 0);
        MoustacheState x = onDay(9980, "day 20;");
        x.live(0);
        Checks.gives("58: as a whole", x, x.many(8), 9980);
        Checks.gives("58: nothing grows", x, x.many(14), 0);
        MoustacheState y = onDay(9979, "day 20;");
        y.live(0);
        Checks.gives("58: the last DAY", y, y.many(8), 9999);
        Checks.gives("58: it grows", y, y.many(14), 20);
        account("behind the last DAY", y, 0, 1, 1, 0, 0, 0, 0);
    }

    private static void test(String state, String test, boolean holds) {
        account("when " + test, Checks.of(state, "when " + test + ";day 2;end;day 1;"), 0, holds ? 3 : 2, 0, holds ? 3 : 1, 0, 0, 0);
    }

    private static void tests() {
        test(ONE, "length a < 50", false);
        test(ONE, "length a < 51", true);
        test(ONE, "length a < 0", false);
        test(ONE, "length a > 50", false);
        test(ONE, "length a > 49", true);
        test(ONE, "length a > 99", false);
        test(ONE, "length a = 49", false);
        test(ONE, "length a = 50", true);
        test(ONE, "length a = 51", false);
        test(ONE, "peace", true);
        test("hair a length 0;", "length a > 0", false);
        test("hair a length 0;", "length a = 0", true);
        test("hair a length 99;", "length a < 99", false);
        test("hair a length 99;", "length a = 99", true);
        test(Bounds.FULL, "shows t", true);
        test(Bounds.FULL, "shows y", false);
        test(Bounds.FULL, "shows x", true);
        test(Bounds.FULL, "length abcdefgh = 33", true);
        account("peace in war", Checks.of(ONE, "war;when peace;day 2;end;day 1;"), 0, 3, 0, 1, 0, 0, 0);
    }

    private static void loops() {
        account("loop 1", Checks.of(ONE, "loop 1;day 1;end;"), 0, 2, 0, 1, 0, 0, 0);
        account("loop 2", Checks.of(ONE, "loop 2;day 1;end;"), 0, 3, 0, 2, 0, 0, 0);
        account("loop 99", Checks.of(ONE, "loop 99;day 1;end;"), 0, 100, 0, 99, 0, 0, 0);
        account("a loop of nothing", Checks.of(ONE, "loop 99;end;"), 0, 1, 0, 0, 0, 0, 0);
        account("three deep", Checks.of(ONE, "loop 4;loop 5;loop 6;day 1;end;end;end;"), 0, 1 + 4 + 20 + 120, 0, 120, 0, 0, 0);
        account("the inner one begins anew", Checks.of(ONE, "loop 2;loop 3;day 1;end;day 10;end;"), 0, 1 + 2 * (1 + 3 + 1), 0, 26, 0, 0, 0);
        account("when in when in when", Checks.of(ONE, "when peace;when peace;when peace;day 1;end;day 2;end;day 4;end;day 8;"), 0, 7, 0, 15, 0, 0, 0);
        account("a stop in three", Checks.of(ONE, "loop 9;when peace;loop 9;day 1;stop;end;end;end;day 9;"), 0, 5, 0, 1, 0, 0, 0);
        account("a stop first", Checks.of(ONE, "stop;day 1;"), 0, 1, 0, 0, 0, 0, 0);
        account("a stop last", Checks.of(ONE, "day 1;stop;"), 0, 2, 0, 1, 0, 0, 0);
    }

    /** 300 STEPS at most: the 300th is done, a 301st is left. */
    private static void howManySteps() {
        String most = "loop 99;wax a 1;wax a 1;wax a 1;end;";
        account("298 and one", Checks.of(ONE, most + "wax a 1;"), 0, 299, 0, 0, 0, 0, 0);
        account("298 and two", Checks.of(ONE, most + "wax a 1;wax a 1;"), 0, 300, 0, 0, 0, 0, 0);
        account("298 and three", Checks.of(ONE, most + "wax a 1;wax a 1;wax a 1;"), 0, 300, 0, 0, 0, 0, 1);
        account("the 300th is done", Checks.of(ONE, most + "wax a 1;day 20;"), 0, 300, 0, 20, 0, 0, 0);
        account("the 301st is not", Checks.of(ONE, most + "wax a 1;wax a 1;day 20;"), 0, 300, 0, 0, 0, 0, 1);
        account("MISSED ones count", Checks.of(ONE, most + "wax a 1;peace;day 20;"), 0, 300, 1, 0, 0, 0, 1);
        account("the 300th is a stop", Checks.of(ONE, most + "wax a 1;stop;day 20;"), 0, 300, 0, 0, 0, 0, 0);
        account("the 301st is a stop", Checks.of(ONE, most + "wax a 1;wax a 1;stop;"), 0, 300, 0, 0, 0, 0, 1);
        account("the 300th is a when that holds", Checks.of(ONE, most + "wax a 1;when peace;day 1;end;"), 0, 300, 0, 0, 0, 0, 1);
        account("the 300th is a when of nothing", Checks.of(ONE, most + "wax a 1;when peace;end;"), 0, 300, 0, 0, 0, 0, 0);
        account("the 300th is a when that does not hold", Checks.of(ONE, most + "war;when peace;day 1;end;"), 0, 300, 0, 0, 0, 0, 0);
        account("the 300th is a loop", Checks.of(ONE, most + "wax a 1;loop 1;day 1;end;"), 0, 300, 0, 0, 0, 0, 1);
        account("the 300th is a loop of nothing", Checks.of(ONE, most + "wax a 1;loop 99;end;"), 0, 300, 0, 0, 0, 0, 0);
        account("the 300th ends the last round", Checks.of(ONE, "loop 13;loop 22;wax a 1;end;end;"), 0, 300, 0, 0, 0, 0, 0);
        account("ends count for nothing", Checks.of(ONE, "loop 99;when peace;when peace;end;end;end;loop 1;wax a 1;end;wax a 1;"), 0, 202, 0, 0, 0, 0, 0);
        account("ends in the midst of 300", Checks.of(ONE, "loop 99;loop 99;loop 99;end;end;end;"), 0, 300, 0, 0, 0, 0, 1);
    }

    private static void lived() {
        MoustacheState twice = Checks.of(ONE + "party p seats 1 wants 0;", "loop 99;peace;day 1;vote a 49;end;day 1;day 1;day 1;");
        account("much", twice, 0, 300, 99, 99 + 2, 2 + 98, 99, 1);
        Checks.reigns(twice, "");
        account("nothing behind it", twice, 0, 0, 0, 0, 0, 0, 0);
        Bounds.takes("59: what", Bounds::full, (x, what) -> x.lived(what), 0, 4, 5);
        Checks.refuses("59: there was none", Checks::sample, x -> x.lived(0), 8);
        Checks.refuses("59: there was none", Checks::sample, x -> x.lived(4), 8);
        Checks.refuses("59: 5 ahead of 8", Checks::sample, x -> x.lived(5), 5);
        Checks.refuses("59: 5 ahead of 8", Checks::sample, x -> x.lived(-1), 5);
        Checks.refuses("59: none by mean()", () -> meant(), x -> x.lived(0), 8);
        Checks.refuses("59: none with STATUS 5", () -> refusedLife(), x -> x.lived(0), 8);
    }

    private static MoustacheState meant() {
        MoustacheState x = Checks.of(ONE, "day 1;");
        x.mean(0, 20);
        return x;
    }

    private static MoustacheState refusedLife() {
        MoustacheState x = Checks.of(ONE, "day 1;");
        x.live(10000);
        return x;
    }

    private static void mean() {
        Bounds.grants("60: seed", Bounds::full, (x, seed) -> x.mean(seed, 1), 0, 9999, 5);
        Bounds.grants("60: seed of twenty", Bounds::full, (x, seed) -> x.mean(seed, 20), 0, 9980, 5);
        Bounds.grants("60: how many", Bounds::full, (x, many) -> x.mean(0, many), 1, 20, 5);
        Bounds.grants("60: how many up to the last seed", Bounds::full, (x, many) -> x.mean(9998, many), 1, 2, 5);
        Checks.denies("60: no REIGNS", Checks::sample, x -> x.mean(0, 1), 8);
        Checks.denies("60: 5 (seed) ahead of 8", Checks::sample, x -> x.mean(10000, 1), 5);
        Checks.denies("60: 5 (how many) ahead of 8", Checks::sample, x -> x.mean(0, 0), 5);
        Checks.denies("60: 5 (the last) ahead of 8", Checks::sample, x -> x.mean(9999, 2), 5);
        Checks.denies("60: both as large as can be", Bounds::full, x -> x.mean(Bounds.MOST, Bounds.MOST), 5);
        Checks.denies("60: both as small as can be", Bounds::full, x -> x.mean(Bounds.LEAST, Bounds.LEAST), 5);
        MoustacheState x = Checks.of("hair a length 1 grows 0 up;hair b length 1 grows 0 down;look l up;", "any;when shows l;trim a 0;end;");
        long sum = 0;
        for (int seed = 9980; seed <= 9999; seed++) {
            MoustacheState alone = Checks.of("hair a length 1 grows 0 up;hair b length 1 grows 0 down;look l up;", "any;when shows l;trim a 0;end;");
            alone.live(seed);
            sum += alone.many(14);
        }
        Checks.gives("60: the last twenty", x, x.mean(9980, 20));
        Checks.due("60: their mean", x.top() * 20, sum * x.bottom());
        Checks.gives("60: all stays as it is", x, x.many(14), 2);
        MoustacheState none = Checks.of("", "");
        Checks.fraction("60: of nothing", none, none.mean(0, 20), 0, 1);
        MoustacheState most = Checks.of("hair a length 99;hair b length 99;", "day 1;");
        Checks.fraction("60: of twenty alike", most, most.mean(0, 20), 198, 1);
    }

    private static MoustacheState markedThrice() {
        MoustacheState x = Checks.busy();
        x.day(1);
        x.mark();
        x.day(1);
        x.mark();
        return x;
    }

    private static void marks() {
        MoustacheState x = new MoustacheState();
        for (int i = 1; i <= 3; i++) {
            Checks.gives("61: MARK " + i, x, x.mark(), i);
            x.day(i);
        }
        Checks.refuses("61: a fourth", BoundsOfReigns::markedThrice, MoustacheState::mark, 7);
        for (int left = 2; left >= 0; left--) {
            Checks.gives("62: back to MARK " + (left + 1), x, x.back(), left);
            Checks.gives("62: the DAY then", x, x.many(8), new int[] {0, 1, 3}[left]);
        }
        Checks.due("62: none is left", x.back(), -1);
        Checks.due("62: none is left: status()", x.status(), 8);
        Checks.refuses("62: there is none", Checks::sample, MoustacheState::back, 8);
        Checks.gives("61: one more", x, x.mark(), 1);
        Checks.gives("61: a second", x, x.mark(), 2);
        x.back();
        Checks.gives("61: in the place of one that is gone", x, x.mark(), 2);
    }

    private static MoustacheState begun() {
        MoustacheState x = Checks.of(Bounds.FULL, Bounds.FULL_REIGNS);
        x.wax(7, 9);
        x.hand();
        x.day(3);
        x.peace(false);
        return x;
    }

    /** All of a STATE comes back, in the first, the second and the third MARK, and its REIGNS are lived as ahead. */
    private static void marksKeep() {
        for (int marks = 1; marks <= 3; marks++) {
            MoustacheState x = begun();
            MoustacheState y = begun();
            for (int i = 0; i < marks; i++) {
                y.mark();
            }
            for (int i = 0; i < marks; i++) {
                spoil(y);
                y.back();
            }
            Checks.gives("62: REIGNS", y, y.live(8), x.live(8));
            for (int what = 0; what <= 4; what++) {
                Checks.gives("62: REIGNS: lived(" + what + ")", y, y.lived(what), x.lived(what));
            }
            Checks.reigns(x, Bounds.FULL_REIGNS);
            Checks.gives("62: NAMES", y, Checks.reigns(y, Bounds.FULL_REIGNS), 30);
            Checks.due("62: all is taken back", Checks.tell(y), Checks.tell(x));
        }
    }

    private static void marksKeepTests() {
        String[] tests = {"peace", "shows u", "length b < 99", "length b > 98", "length b = 98"};
        for (String one : tests) {
            for (String other : tests) {
                MoustacheState x = Checks.of(Bounds.FULL, "when " + one + ";day 1;end;day 2;");
                MoustacheState y = Checks.of(Bounds.FULL, "when " + one + ";day 1;end;day 2;");
                y.mark();
                Checks.reigns(y, "when " + other + ";day 4;end;day 8;");
                y.back();
                Checks.gives("62: when " + one + " in place of " + other, y, y.live(0), x.live(0));
                Checks.gives("62: when " + one + " in place of " + other + ": DAYS", y, y.lived(1), x.lived(1));
            }
        }
    }

    private static void spoil(MoustacheState x) {
        x.state(0);
        x.rule(6, 9);
        x.rule(7, 9);
        x.graft(9, 9);
        x.day(9);
        Checks.reigns(x, "peace;day 3;stop;loop 2;day 2;when peace;end;end;any;");
    }

    /** What is refused leaves the latest life and the REIGNS as they are. */
    private static void refusedLives() {
        MoustacheState x = Checks.of(ONE, "day 3;");
        x.live(0);
        x.live(-1);
        x.live(10000);
        Checks.gives("59: of the latest with STATUS 0", x, x.lived(1), 3);
        Checks.gives("58: nothing went by", x, x.many(8), 3);
        x.state(0);
        x.live(0);
        Checks.due("58: no REIGNS", x.status(), 8);
        Checks.gives("59: of the latest with STATUS 0", x, x.lived(1), 3);
    }
}
