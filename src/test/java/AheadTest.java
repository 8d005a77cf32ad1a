/** Promises 32 to 43. */
public final class AheadTest {
    private static final int[] WRONG = {-1, 1000, Integer.MIN_VALUE, Integer.MAX_VALUE};

    public static void main(String[] args) {
        shown();
        shownIn();
        reach();
        within();
        agree();
        lengthIn();
        standsIn();
        longIn();
        evenIn();
        greyIn();
        wrongLooks();
        wrongDays();
        Checks.end();
    }

    private static void shown() {
        MoustacheState x = Checks.sample();
        for (int look = 0; look < 3; look++) {
            Checks.gives("32: shown()", x, x.shown(look), 0);
            Checks.gives("34: wrong()", x, x.wrong(look), new int[] {3, 1, 2}[look]);
        }
        Checks.refuses("33: none", Checks::sample, MoustacheState::reads, 8);
        Checks.refuses("33: without LOOKS", () -> Checks.of("hair a length 1;"), MoustacheState::reads, 8);
        x.comb(0, 1);
        Checks.gives("32: shown(1)", x, x.shown(1), 1);
        Checks.gives("33: reads()", x, x.reads(), 1);
        Checks.gives("34: wrong(1)", x, x.wrong(1), 0);
        x.dream(0, 0, 3);
        x.dream(0, 1, 0);
        x.dream(0, 2, 1);
        x.dream(0, 3, 1);
        Checks.gives("32: shown(0)", x, x.shown(0), 1);
        Checks.gives("33: the first", x, x.reads(), 0);
        MoustacheState none = Checks.of("look a;");
        Checks.gives("32: a LOOK without SETS", none, none.shown(0), 1);
        Checks.gives("33: a LOOK without SETS", none, none.reads(), 0);
        Checks.gives("34: a LOOK without SETS", none, none.wrong(0), 0);
    }

    private static void shownIn() {
        MoustacheState x = Checks.sample();
        Checks.gives("35: shownIn(0)", x, x.shownIn(0), 2);
        Checks.gives("35: shownIn(2)", x, x.shownIn(2), 1);
        Checks.due("35: in none", x.shownIn(1), -1);
        Checks.due("35: in none", x.status(), 8);
        x.wax(1, 99);
        Checks.gives("35: behind WAX", x, x.shownIn(0), 101);
        x.peace(false);
        Checks.gives("35: in war", x, x.shownIn(1), 1);
        x.comb(0, 1);
        Checks.gives("35: now", x, x.shownIn(1), 0);
        Checks.due("35: nothing goes by", x.many(8), 0);
        MoustacheState late = Checks.of("hair a length 1;look f flat;");
        for (int i = 0; i < 101; i++) {
            late.day(99);
        }
        late.comb(0, 0);
        Checks.gives("35: DAY 9,999 does not matter", late, late.shownIn(0), 1);
        Checks.refuses("35: in none", AheadTest::busyAndUp, y -> y.shownIn(1), 8);
    }

    private static MoustacheState busyAndUp() {
        MoustacheState x = Checks.busy();
        x.wax(1, 0);
        x.day(3);
        return x;
    }

    private static void reach() {
        MoustacheState x = Checks.sample();
        int[] due = {2, 1, 1};
        for (int look = 0; look < 3; look++) {
            Checks.gives("36: reach()", x, x.reach(look), due[look]);
        }
        MoustacheState both = Checks.of("hair a length 1 up;hair b length 1 down;hair c length 1;look far down up;look near flat flat flat;look here up down;look free;");
        Checks.gives("36: two sink, two rise", both, both.reach(0), 4);
        Checks.gives("36: one sinks, one rises", both, both.reach(1), 2);
        Checks.gives("36: it is so", both, both.reach(2), 0);
        Checks.gives("36: nothing told", both, both.reach(3), 0);
        both.wax(0, 99);
        both.peace(false);
        Checks.gives("36: WAX and war now do not matter", both, both.reach(0), 4);
    }

    private static void within() {
        MoustacheState x = Checks.sample();
        for (int n = 0; n <= 4; n++) {
            Checks.gives("37: within(" + n + ")", x, x.within(n), rows(new int[] {2, 0, 1, 1}, n));
        }
        Checks.due("37: within(1)", x.within(1), 15);
        Checks.due("37: within(4)", x.within(4), 81);
        MoustacheState eight = Checks.of("hair a length 1 up;hair b length 1 down;hair c length 1;hair d length 1;hair e length 1;hair f length 1 up;hair g length 1 down;hair h length 1 down;");
        for (int n = 0; n <= 4; n++) {
            Checks.gives("37: of eight within(" + n + ")", eight, eight.within(n), rows(new int[] {2, 0, 1, 1, 1, 2, 0, 0}, n));
        }
        MoustacheState none = new MoustacheState();
        Checks.gives("37: of none", none, none.within(3), 1);
    }

    /** By the words: from row to row, DAY by DAY, any HAIRS held. */
    private static int rows(int[] stands, int days) {
        int all = 1;
        for (int i = 0; i < stands.length; i++) {
            all *= 3;
        }
        boolean[] reached = new boolean[all];
        reached[number(stands)] = true;
        for (int day = 0; day < days; day++) {
            boolean[] then = reached.clone();
            for (int row = 0; row < all; row++) {
                for (int held = 0; reached[row] && held < 1 << stands.length; held++) {
                    then[moved(row, stands.length, held, 1)] = true;
                    then[moved(row, stands.length, held, -1)] = true;
                }
            }
            reached = then;
        }
        int count = 0;
        for (boolean is : reached) {
            count += is ? 1 : 0;
        }
        return count;
    }

    private static int number(int[] stands) {
        int number = 0;
        for (int i = stands.length - 1; i >= 0; i--) {
            number = number * 3 + stands[i];
        }
        return number;
    }

    private static int moved(int row, int hairs, int held, int by) {
        int[] stands = new int[hairs];
        int left = row;
        for (int i = 0; i < hairs; i++) {
            stands[i] = left % 3;
            left /= 3;
            if ((held >> i & 1) == 0) {
                stands[i] = Math.max(0, Math.min(2, stands[i] + by));
            }
        }
        return number(stands);
    }

    private static void agree() {
        MoustacheState x = Checks.sample();
        int[][] due = {{1, 0, 0}, {0, 1, 0}, {0, 0, 1}};
        for (int a = 0; a < 3; a++) {
            for (int b = 0; b < 3; b++) {
                Checks.gives("38: agree(" + a + ", " + b + ")", x, x.agree(a, b), due[a][b]);
            }
        }
        x.dream(2, 1, 2);
        Checks.gives("38: agree(0, 2)", x, x.agree(0, 2), 1);
        Checks.gives("38: agree(2, 0)", x, x.agree(2, 0), 1);
        x.dream(0, 3, 0);
        Checks.gives("38: the last HAIR", x, x.agree(0, 2), 0);
    }

    private static void lengthIn() {
        MoustacheState x = Checks.sample();
        Checks.gives("39: lengthIn(0, 0)", x, x.lengthIn(0, 0), 10);
        Checks.gives("39: lengthIn(0, 3)", x, x.lengthIn(0, 3), 19);
        Checks.gives("39: lengthIn(2, 68)", x, x.lengthIn(2, 68), 98);
        Checks.gives("39: lengthIn(2, 69)", x, x.lengthIn(2, 69), 99);
        Checks.gives("39: lengthIn(2, 70)", x, x.lengthIn(2, 70), 99);
        Checks.gives("39: lengthIn(3, 200)", x, x.lengthIn(3, 200), 99);
        x.hand();
        Checks.gives("39: by who rules", x, x.lengthIn(0, 3), 28);
        MoustacheState none = Checks.of("hair a length 4 grows 0;");
        Checks.gives("39: without RULERS", none, none.lengthIn(0, 200), 4);
    }

    private static void standsIn() {
        MoustacheState x = Checks.sample();
        x.wax(1, 2);
        int[] due = {0, 0, 0, 1, 2, 2};
        for (int days = 0; days < due.length; days++) {
            Checks.gives("40: standsIn(1, " + days + ")", x, x.standsIn(1, days), due[days]);
        }
        x.peace(false);
        int[] war = {2, 1, 0, 0};
        for (int days = 0; days < war.length; days++) {
            Checks.gives("40: in war standsIn(0, " + days + ")", x, x.standsIn(0, days), war[days]);
        }
        Checks.gives("40: standsIn(0, 200)", x, x.standsIn(0, 200), 0);
    }

    private static void longIn() {
        MoustacheState x = Checks.sample();
        Checks.gives("41: longIn(0, 10)", x, x.longIn(0, 10), 0);
        Checks.gives("41: longIn(0, 0)", x, x.longIn(0, 0), 0);
        Checks.gives("41: longIn(0, 11)", x, x.longIn(0, 11), 1);
        Checks.gives("41: longIn(0, 13)", x, x.longIn(0, 13), 1);
        Checks.gives("41: longIn(0, 14)", x, x.longIn(0, 14), 2);
        Checks.gives("41: longIn(2, 99)", x, x.longIn(2, 99), 69);
        MoustacheState slow = Checks.of("hair a length 0;hair b length 4 grows 0;");
        Checks.gives("41: longIn(0, 99)", slow, slow.longIn(0, 99), 99);
        Checks.gives("41: longIn(1, 4)", slow, slow.longIn(1, 4), 0);
        Checks.refuses("41: in none", () -> Checks.of("hair b length 4 grows 0;"), y -> y.longIn(0, 5), 8);
    }

    private static void evenIn() {
        MoustacheState x = Checks.sample();
        Checks.gives("42: evenIn()", x, x.evenIn(), 2);
        x.wax(1, 4);
        Checks.gives("42: behind WAX", x, x.evenIn(), 6);
        x.peace(false);
        Checks.gives("42: in war", x, x.evenIn(), 2);
        x.wax(0, 99);
        Checks.gives("42: behind long WAX", x, x.evenIn(), 101);
        x.comb(0, 0);
        x.comb(2, 0);
        x.comb(3, 0);
        Checks.gives("42: now", x, x.evenIn(), 0);
        MoustacheState held = Checks.of("hair a length 1 down;hair b length 1 up;");
        held.wax(0, 9);
        held.wax(1, 9);
        held.comb(1, 1);
        Checks.gives("42: both held", held, held.evenIn(), 11);
        held.wax(1, 99);
        Checks.gives("42: alike on the way", held, held.evenIn(), 10);
        MoustacheState none = new MoustacheState();
        Checks.gives("42: of none", none, none.evenIn(), 0);
    }

    private static void greyIn() {
        MoustacheState x = Checks.sample();
        int[] due = {0, 0, 2, 2, 4, 4};
        for (int days = 0; days < due.length; days++) {
            Checks.gives("43: greyIn(" + days + ")", x, x.greyIn(days), due[days]);
        }
        x.day(1);
        Checks.gives("43: from DAY 1 on", x, x.greyIn(1), 2);
        Checks.gives("43: greyIn(999)", x, x.greyIn(999), 4);
        MoustacheState late = Checks.of("greys 99;hair a length 1;");
        Checks.gives("43: greyIn(98)", late, late.greyIn(98), 0);
        Checks.gives("43: greyIn(99)", late, late.greyIn(99), 1);
    }

    private static void wrongLooks() {
        int[] wrong = {-1, 3, Integer.MIN_VALUE, Integer.MAX_VALUE};
        for (int w : wrong) {
            Checks.refuses("32: no such LOOK", Checks::busy, x -> x.shown(w), 2);
            Checks.refuses("34: no such LOOK", Checks::busy, x -> x.wrong(w), 2);
            Checks.refuses("35: no such LOOK", Checks::busy, x -> x.shownIn(w), 2);
            Checks.refuses("36: no such LOOK", Checks::busy, x -> x.reach(w), 2);
            Checks.refuses("38: no such LOOK", Checks::busy, x -> x.agree(w, 0), 2);
            Checks.refuses("38: no such other LOOK", Checks::busy, x -> x.agree(0, w), 2);
        }
    }

    private static void wrongDays() {
        for (int w : WRONG) {
            Checks.refuses("37: within(" + w + ")", Checks::busy, x -> x.within(w), 5);
            Checks.refuses("39: no such HAIR", Checks::busy, x -> x.lengthIn(w, w), 2);
            Checks.refuses("39: lengthIn(0, " + w + ")", Checks::busy, x -> x.lengthIn(0, w), 5);
            Checks.refuses("40: no such HAIR", Checks::busy, x -> x.standsIn(w, w), 2);
            Checks.refuses("40: standsIn(0, " + w + ")", Checks::busy, x -> x.standsIn(0, w), 5);
            Checks.refuses("41: no such HAIR", Checks::busy, x -> x.longIn(w, w), 2);
            Checks.refuses("41: longIn(0, " + w + ")", Checks::busy, x -> x.longIn(0, w), 5);
            Checks.refuses("43: greyIn(" + w + ")", Checks::busy, x -> x.greyIn(w), 5);
        }
        Checks.refuses("37: within(5)", Checks::busy, x -> x.within(5), 5);
        Checks.refuses("39: a fifth HAIR", Checks::busy, x -> x.lengthIn(4, 0), 2);
        Checks.refuses("39: lengthIn(0, 201)", Checks::busy, x -> x.lengthIn(0, 201), 5);
        Checks.refuses("40: a fifth HAIR", Checks::busy, x -> x.standsIn(4, 0), 2);
        Checks.refuses("40: standsIn(0, 201)", Checks::busy, x -> x.standsIn(0, 201), 5);
        Checks.refuses("41: a fifth HAIR", Checks::busy, x -> x.longIn(4, 0), 2);
        Checks.refuses("41: longIn(0, 100)", Checks::busy, x -> x.longIn(0, 100), 5);
    }
}
