/** Promises 32 to 43 at their bounds. */
final class BoundsOfLooks {
    private static final String THREE = "hair a length 1 down;hair b length 1;hair c length 1 up;";

    private BoundsOfLooks() {
    }

    static void all() {
        oneOfLooks();
        shown();
        reads();
        wrong();
        shownIn();
        reach();
        within();
        agree();
        lengthIn();
        standsIn();
        longIn();
        evenIn();
        greyIn();
        aheadOfLastDay();
        nothingGoesBy();
    }

    private static void oneOfLooks() {
        Bounds.oneOf("32: LOOK", (x, look) -> x.shown(look), 6);
        Bounds.oneOf("34: LOOK", (x, look) -> x.wrong(look), 6);
        Bounds.takes("35: LOOK", () -> Checks.of("look a;look b;look c;look d;look e;look f;"), (x, look) -> x.shownIn(look), 0, 5, 2);
        Checks.refuses("35: LOOK 0 of none", MoustacheState::new, x -> x.shownIn(0), 2);
        Bounds.oneOf("36: LOOK", (x, look) -> x.reach(look), 6);
        Bounds.oneOf("38: LOOK", (x, look) -> x.agree(look, 0), 6);
        Bounds.oneOf("38: the other LOOK", (x, look) -> x.agree(5, look), 6);
    }

    /** Each way to stand against each SET, for the first HAIR and the last. */
    private static void shown() {
        for (int hair = 0; hair < 8; hair += 7) {
            for (int stands = 0; stands <= 2; stands++) {
                for (int told = 0; told <= 3; told++) {
                    MoustacheState x = Checks.of("look a;look b;look c;look d;look e;look f;");
                    for (int h = 0; h < 8; h++) {
                        x.graft(1, 1);
                    }
                    x.comb(hair, stands);
                    x.dream(5, hair, told);
                    boolean is = told == 3 || told == stands;
                    Checks.gives("32: stands " + stands + ", told " + told, x, x.shown(5), is ? 1 : 0);
                    Checks.gives("34: stands " + stands + ", told " + told, x, x.wrong(5), is ? 0 : 1);
                    Checks.gives("32: a LOOK beside it", x, x.shown(4), 1);
                }
            }
        }
        MoustacheState none = Checks.of("look a;");
        Checks.gives("32: without HAIRS", none, none.shown(0), 1);
        Checks.gives("34: without HAIRS", none, none.wrong(0), 0);
        Checks.gives("35: without HAIRS", none, none.shownIn(0), 0);
        Checks.gives("36: without HAIRS", none, none.reach(0), 0);
        Checks.gives("38: without HAIRS", none, none.agree(0, 0), 1);
        Checks.fraction("56: without HAIRS", none, none.legible(0, 0), 1, 1);
    }

    private static void reads() {
        String looks = "look l up;look m up;look n up;look o up;look p up;look q ";
        Checks.refuses("33: none of six", () -> Checks.of(THREE + looks + "down up;"), MoustacheState::reads, 8);
        Checks.refuses("33: none of none", MoustacheState::new, MoustacheState::reads, 8);
        MoustacheState last = Checks.of(THREE + looks + "down flat up;");
        Checks.gives("33: the last of six", last, last.reads(), 5);
        last.comb(0, 2);
        Checks.gives("33: the first of five", last, last.reads(), 0);
        MoustacheState all = Checks.of("look a;look b;look c;look d;look e;look f;");
        Checks.gives("33: the first of all", all, all.reads(), 0);
    }

    private static void wrong() {
        MoustacheState x = Checks.of(Bounds.FULL);
        int[] due = {0, 1, 0, 6, 0, 1};
        for (int look = 0; look < 6; look++) {
            Checks.gives("34: wrong(" + look + ")", x, x.wrong(look), due[look]);
        }
        x.comb(1, 0);
        x.comb(4, 1);
        Checks.gives("34: all of them", x, x.wrong(3), 8);
        Checks.gives("36: two DAYS for all of them", x, x.reach(3), 2);
    }

    private static void shownIn() {
        String text = "hair a length 1 down;look l up;look m flat;look n down;";
        MoustacheState x = Checks.of(text);
        for (int look = 0; look < 3; look++) {
            Checks.gives("35: shownIn(" + look + ")", x, x.shownIn(look), 2 - look);
        }
        x.wax(0, 99);
        for (int look = 0; look < 3; look++) {
            Checks.gives("35: waxed shownIn(" + look + ")", x, x.shownIn(look), new int[] {101, 100, 0}[look]);
        }
        Checks.refuses("35: in none, as it rises", () -> combed(text, 1, true), y -> y.shownIn(2), 8);
        Checks.refuses("35: in none, as it sinks", () -> combed(text, 1, false), y -> y.shownIn(0), 8);
        Checks.refuses("35: in none, as it stays", () -> combed(text, 0, false), y -> y.shownIn(1), 8);
        MoustacheState last = Bounds.onLastDay(text);
        last.comb(0, 0);
        Checks.gives("35: DAY 9,999 does not matter", last, last.shownIn(0), 2);
    }

    private static MoustacheState combed(String text, int how, boolean peace) {
        MoustacheState x = Checks.of(text);
        x.comb(0, how);
        x.peace(peace);
        return x;
    }

    private static void reach() {
        String looks = "look ll up either down;look mm down flat up;look nn up;look oo down down down;look pp flat up flat;look qq;";
        MoustacheState x = Checks.of(THREE + looks);
        int[] due = {4, 0, 2, 2, 2, 0};
        for (int look = 0; look < 6; look++) {
            Checks.gives("36: reach(" + look + ")", x, x.reach(look), due[look]);
        }
        x.wax(0, 99);
        x.wax(2, 99);
        Checks.gives("36: those waxed now may move likewise", x, x.reach(0), 4);
        x.peace(false);
        Checks.gives("36: in war now", x, x.reach(0), 4);
        MoustacheState last = Bounds.onLastDay("hair a length 1;look l down;");
        Checks.gives("36: DAY 9,999 does not matter", last, last.reach(0), 2);
    }

    private static void within() {
        Bounds.takes("37: within()", Bounds::full, (x, n) -> x.within(n), 0, 4, 5);
        Bounds.takes("37: within() of nothing", MoustacheState::new, (x, n) -> x.within(n), 0, 4, 5);
        MoustacheState none = new MoustacheState();
        MoustacheState one = Checks.of("hair a length 1 down;");
        MoustacheState flat = Checks.of("hair a length 1;");
        MoustacheState all = Checks.of(Bounds.FULL);
        int[] ofOne = {1, 2, 3, 3, 3};
        int[] ofFlat = {1, 3, 3, 3, 3};
        for (int n = 0; n <= 4; n++) {
            Checks.gives("37: of none within(" + n + ")", none, none.within(n), 1);
            Checks.gives("37: of one within(" + n + ")", one, one.within(n), ofOne[n]);
            Checks.gives("37: of one that is FLAT within(" + n + ")", flat, flat.within(n), ofFlat[n]);
        }
        Checks.gives("37: of eight within(0)", all, all.within(0), 1);
        // Two stand UP, two DOWN, four FLAT: each DAY moves those that can.
        Checks.gives("37: of eight within(1)", all, all.within(1), 64 + 64 - 1);
        Checks.gives("37: of eight within(4)", all, all.within(4), 6561);
        all.wax(1, 99);
        all.peace(false);
        Checks.gives("37: those waxed now may move likewise", all, all.within(1), 127);
    }

    private static void agree() {
        for (int one = 0; one <= 3; one++) {
            for (int other = 0; other <= 3; other++) {
                for (int hair = 0; hair < 8; hair += 7) {
                    MoustacheState x = Checks.of(Bounds.FULL);
                    x.dream(0, hair, one);
                    x.dream(5, 7, 3);
                    x.dream(5, hair, other);
                    boolean could = one == 3 || other == 3 || one == other;
                    Checks.gives("38: " + one + " and " + other, x, x.agree(0, 5), could ? 1 : 0);
                    Checks.gives("38: " + other + " and " + one, x, x.agree(5, 0), could ? 1 : 0);
                }
            }
        }
        MoustacheState x = Checks.of(Bounds.FULL);
        for (int look = 0; look < 6; look++) {
            Checks.gives("38: one with itself", x, x.agree(look, look), 1);
        }
    }

    private static void lengthIn() {
        Bounds.oneOf("39: HAIR", (x, h) -> x.lengthIn(h, 1), 8);
        Bounds.takes("39: DAYS", Bounds::full, (x, days) -> x.lengthIn(7, days), 0, 200, 5);
        Checks.refuses("39: 2 ahead of 5", Bounds::full, x -> x.lengthIn(8, 201), 2);
        MoustacheState x = Checks.of("hair a length 0;hair b length 99 grows 9;hair c length 0 grows 0;");
        int[][] due = {{0, 0}, {1, 1}, {98, 98}, {99, 99}, {100, 99}, {200, 99}};
        for (int[] two : due) {
            Checks.gives("39: in " + two[0] + " DAYS", x, x.lengthIn(0, two[0]), two[1]);
            Checks.gives("39: 99 at most", x, x.lengthIn(1, two[0]), 99);
            Checks.gives("39: it never grows", x, x.lengthIn(2, two[0]), 0);
        }
    }

    private static void standsIn() {
        Bounds.oneOf("40: HAIR", (x, h) -> x.standsIn(h, 1), 8);
        Bounds.takes("40: DAYS", Bounds::full, (x, days) -> x.standsIn(7, days), 0, 200, 5);
        Checks.refuses("40: 2 ahead of 5", Bounds::full, x -> x.standsIn(-1, -1), 2);
        MoustacheState x = Checks.of("hair a length 1 down;");
        x.wax(0, 99);
        int[][] due = {{0, 0}, {98, 0}, {99, 0}, {100, 1}, {101, 2}, {102, 2}, {200, 2}};
        for (int[] two : due) {
            Checks.gives("40: waxed, in " + two[0] + " DAYS", x, x.standsIn(0, two[0]), two[1]);
        }
        x.comb(0, 2);
        x.peace(false);
        for (int[] two : due) {
            Checks.gives("40: in war, in " + two[0] + " DAYS", x, x.standsIn(0, two[0]), 2 - two[1]);
        }
    }

    private static void longIn() {
        Bounds.takes("41: HAIR", () -> Checks.of(THREE), (x, h) -> x.longIn(h, 9), 0, 2, 2);
        Checks.refuses("41: HAIR 0 of none", MoustacheState::new, x -> x.longIn(0, 0), 2);
        Bounds.takes("41: length", () -> Checks.of(THREE), (x, length) -> x.longIn(2, length), 0, 99, 5);
        Checks.refuses("41: 2 ahead of 5", Bounds::full, x -> x.longIn(8, 100), 2);
        Checks.refuses("41: in none", () -> Checks.of("hair a length 98 grows 0;"), x -> x.longIn(0, 99), 8);
        Checks.refuses("41: 5 ahead of 8", () -> Checks.of("hair a length 98 grows 0;"), x -> x.longIn(0, 100), 5);
        MoustacheState x = Checks.of("hair a length 98 grows 0;hair b length 0;hair c length 1 grows 9;ruler r lip 0;ruler s lip 9;");
        Checks.gives("41: so long", x, x.longIn(0, 98), 0);
        Checks.gives("41: longer", x, x.longIn(0, 0), 0);
        Checks.gives("41: the longest time", x, x.longIn(1, 99), 99);
        Checks.gives("41: just so long", x, x.longIn(2, 10), 1);
        Checks.gives("41: longer than that first", x, x.longIn(2, 11), 2);
        x.hand();
        Checks.gives("41: by a LIP alone", x, x.longIn(0, 99), 1);
        Checks.gives("41: by 18 each DAY", x, x.longIn(2, 19), 1);
        Checks.gives("41: by 18 each DAY", x, x.longIn(2, 20), 2);
    }

    private static void evenIn() {
        MoustacheState none = new MoustacheState();
        Checks.gives("42: of none", none, none.evenIn(), 0);
        MoustacheState one = Checks.of("hair a length 1;");
        one.wax(0, 99);
        Checks.gives("42: of one", one, one.evenIn(), 0);
        MoustacheState x = new MoustacheState();
        for (int h = 0; h < 8; h++) {
            x.graft(1, 1);
        }
        Checks.gives("42: of eight that are FLAT", x, x.evenIn(), 0);
        for (int h = 0; h < 8; h++) {
            x.comb(h, 0);
            Checks.gives("42: but for HAIR " + h, x, x.evenIn(), 2);
            x.comb(h, 1);
        }
        x.comb(7, 0);
        x.comb(7, 2);
        Checks.gives("42: the last is UP", x, x.evenIn(), 1);
        x.comb(7, 0);
        x.wax(7, 99);
        Checks.gives("42: the latest", x, x.evenIn(), 101);
        x.peace(false);
        Checks.gives("42: in war", x, x.evenIn(), 1);
    }

    private static void greyIn() {
        Bounds.takes("43: DAYS", Bounds::full, (x, days) -> x.greyIn(days), 0, 999, 5);
        Bounds.takes("43: DAYS of none", MoustacheState::new, (x, days) -> x.greyIn(days), 0, 999, 5);
        MoustacheState x = Checks.of("greys 99;hair a length 1;hair b length 1;hair c length 1;");
        int[][] due = {{0, 0}, {98, 0}, {99, 2}, {197, 2}, {198, 3}, {999, 3}};
        for (int[] two : due) {
            Checks.gives("43: in " + two[0] + " DAYS", x, x.greyIn(two[0]), two[1]);
        }
        x.day(98);
        Checks.gives("43: today", x, x.greyIn(0), 0);
        Checks.gives("43: tomorrow", x, x.greyIn(1), 2);
        MoustacheState none = new MoustacheState();
        Checks.gives("43: of none", none, none.greyIn(999), 0);
        MoustacheState last = Bounds.onLastDay("greys 99;hair a length 1;");
        Checks.gives("43: DAY 9,999 does not matter", last, last.greyIn(999), 1);
        MoustacheState eight = Checks.of("greys 99;" + Bounds.FULL.substring(16, Bounds.FULL.indexOf("party")));
        Checks.gives("43: the eighth of 999 by 99", eight, eight.greyIn(999), 8);
        Checks.gives("43: six of 395 by 99", eight, eight.greyIn(395), 6);
    }

    /** DAY 9,999 does not matter to what is told of DAYS ahead. */
    private static void aheadOfLastDay() {
        MoustacheState x = Bounds.onLastDay("hair a length 1;hair b length 1;look l up flat;");
        x.trim(0, 0);
        x.comb(0, 0);
        Checks.gives("39: lengthIn()", x, x.lengthIn(0, 98), 98);
        Checks.gives("40: standsIn()", x, x.standsIn(0, 1), 1);
        Checks.gives("41: longIn()", x, x.longIn(0, 99), 99);
        Checks.gives("42: evenIn()", x, x.evenIn(), 2);
        Checks.gives("37: within()", x, x.within(1), 2 + 2 - 1);
        Checks.gives("36: reach()", x, x.reach(0), 2 + 1);
        x.tray(0, 1, 2);
        x.write(0, 0, 98);
        x.write(0, 1, 98);
        Checks.gives("50: seen()", x, x.seen(0, 1), 1);
        Checks.gives("54: game()", x, x.game(2), 1 - 2);
        Checks.gives("13: it is DAY 9,999 still", x, x.many(8), 9999);
    }

    /** What is told of DAYS ahead changes nothing. */
    private static void nothingGoesBy() {
        MoustacheState x = Checks.busy();
        x.shownIn(0);
        x.reach(0);
        x.within(4);
        x.lengthIn(0, 200);
        x.standsIn(0, 200);
        x.longIn(0, 99);
        x.evenIn();
        x.greyIn(999);
        x.poll(0, 0);
        x.passes(0);
        x.shortest(0);
        x.shortestSet(0);
        x.divided();
        x.dividedBy();
        x.seen(0, 0);
        x.paired();
        x.pairedSet();
        x.game(3);
        x.moveOf(3);
        Checks.due("35 to 55: nothing is changed", Checks.tell(x), Checks.tell(Checks.busy()));
    }
}
