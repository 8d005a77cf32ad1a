/** Promises 58 to 62. */
public final class ReignsTest {
    public static void main(String[] args) {
        steps();
        missedDays();
        draws();
        tests();
        loops();
        limit();
        stops();
        lived();
        mean();
        marks();
        wrongCalls();
        Checks.end();
    }

    /** What live() gives, then lived(0) to lived(4). */
    private static void account(String what, MoustacheState x, int seed, int... due) {
        Checks.gives("58: " + what, x, x.live(seed), due[0]);
        for (int i = 0; i < 5; i++) {
            Checks.gives("59: " + what + ": lived(" + i + ")", x, x.lived(i), due[i + 1]);
        }
    }

    private static void steps() {
        MoustacheState x = Checks.of(Checks.SAMPLE, "war; war; peace; peace; hand; hand; wax left 3; wax tip 0; day 2;");
        account("what is done", x, 0, 9, 3, 2, 0, 0, 0);
        Checks.due("58: PEACE", x.many(9), 1);
        Checks.due("58: RULER", x.ruler(), 1);
        Checks.due("58: WAX", x.hair(1, 3), 1);
        Checks.due("58: LENGTHS", x.many(14), 67 + 2 * (6 + 5 + 4 + 7));
        Checks.due("58: the DAY", x.many(8), 2);
        MoustacheState y = Checks.of(Checks.SAMPLE, "trim mid 30; trim mid 40; trim mid 29; vote left 20; vote left 12; vote right 0; vote right 7; trim right 0;");
        account("trims, votes", y, 0, 8, 5, 0, 1 + 8 + 7, 1, 0);
        Checks.due("58: all is as it is then", y.many(14), 10 + 12 + 29);
        account("once more", y, 0, 8, 8, 0, 0, 0, 0);
        String even = "hair a length 10;party p seats 5 wants 0;party q seats ";
        account("a vote with as many against it", Checks.of(even + "5 wants 20;", "vote a 5;"), 0, 1, 1, 0, 0, 0, 0);
        account("a vote by one more", Checks.of(even + "4 wants 20;", "vote a 5;"), 0, 1, 0, 0, 5, 1, 0);
        account("a vote without PARTIES", Checks.of("hair a length 10;", "vote a 5;"), 0, 1, 1, 0, 0, 0, 0);
        MoustacheState none = Checks.of(Checks.SAMPLE, "");
        account("no STEPS", none, 0, 0, 0, 0, 0, 0, 0);
    }

    private static void missedDays() {
        MoustacheState x = Checks.of("hair a length 0;", "day 20; day 1;");
        for (int i = 0; i < 100; i++) {
            x.day(99);
        }
        x.day(80);
        x.trim(0, 0);
        account("DAYS beyond 9,999", x, 0, 2, 1, 1, 0, 0, 0);
        Checks.due("58: as a whole", x.many(8), 9981);
        Checks.due("58: it grows no more than that", x.many(14), 1);
    }

    private static void draws() {
        MoustacheState x = Checks.of("hair a length 1;hair b length 1;hair c length 1;hair d length 1;hair e length 1;", "any; any; any;");
        for (int seed = 0; seed <= 9999; seed += 3333) {
            int[] stands = new int[5];
            for (int h = 0; h < 5; h++) {
                stands[h] = x.hair(h, 2);
            }
            int s = seed;
            for (int i = 0; i < 3; i++) {
                s = (s * 2971 + 10837) % 65536;
                int hair = s / 8 % 5;
                s = (s * 2971 + 10837) % 65536;
                stands[hair] = s / 8 % 3;
            }
            account("by seed " + seed, x, seed, 3, 0, 0, 0, 0, 0);
            for (int h = 0; h < 5; h++) {
                Checks.due("58: by seed " + seed + " HAIR " + h, x.hair(h, 2), stands[h]);
            }
        }
        MoustacheState zero = Checks.of("hair a length 1;hair b length 1;hair c length 1;", "any;");
        // 10,837 by 8 is 1,354, by 3 leaves 1; then 10,837 * 2,971 + 10,837 leaves 29,652 (3,706 by 8, by 3 leaves 1).
        zero.comb(1, 0);
        zero.live(0);
        Checks.due("58: the first draws by seed 0", zero.hair(1, 2), (10837 * 2971 + 10837) % 65536 / 8 % 3);
        MoustacheState none = Checks.of("", "any;any;");
        account("any without HAIRS", none, 0, 2, 2, 0, 0, 0, 0);
    }

    private static void tests() {
        String state = "hair a length 5 up;hair b length 9;look yes up;look no down;";
        String[] holds = {"peace", "shows yes", "length a = 5", "length a < 6", "length a > 4", "length b>5"};
        String[] fails = {"shows no", "length a = 4", "length a < 5", "length a > 5", "length b < 0", "length b > 99"};
        for (String test : holds) {
            account("when " + test, Checks.of(state, "when " + test + "; day 2; end; trim b 0;"), 0, 3, 0, 2, 11, 0, 0);
        }
        for (String test : fails) {
            account("when " + test, Checks.of(state, "when " + test + "; day 2; end; trim b 0;"), 0, 2, 0, 0, 9, 0, 0);
        }
        account("when peace in war", Checks.of(state, "war; when peace; when peace; any; end; stop; end; day 1;"), 0, 3, 0, 1, 0, 0, 0);
        account("whens in one another", Checks.of(state, "when peace; when shows no; day 1; end; day 2; when peace; day 4; end; end; day 8;"),
                0, 6, 0, 14, 0, 0, 0);
    }

    private static void loops() {
        String state = "hair a length 5 up;";
        account("loop", Checks.of(state, "loop 3; day 1; end;"), 0, 4, 0, 3, 0, 0, 0);
        account("loop 1", Checks.of(state, "loop 1; day 1; end; day 2;"), 0, 3, 0, 3, 0, 0, 0);
        account("loops in one another", Checks.of(state, "loop 3; loop 2; day 1; end; loop 4; end; day 5; end;"),
                0, 1 + 3 * (1 + 2 + 1 + 1), 0, 21, 0, 0, 0);
        account("three deep", Checks.of(state, "loop 2; loop 3; loop 4; day 1; end; end; end;"), 0, 1 + 2 + 6 + 24, 0, 24, 0, 0, 0);
        account("a loop of nothing", Checks.of(state, "loop 99; end; day 1;"), 0, 2, 0, 1, 0, 0, 0);
        account("a when in a loop", Checks.of(state, "loop 5; when length a < 8; day 1; end; end;"), 0, 1 + 5 + 3, 0, 3, 0, 0, 0);
        account("a loop in a when", Checks.of(state, "war; when peace; loop 9; any; end; end; day 1;"), 0, 3, 0, 1, 0, 0, 0);
    }

    private static void limit() {
        String state = "hair a length 5 up;";
        account("300 STEPS", Checks.of(state, "loop 99; any; any; any; end; any; any; any;"), 0, 300, 0, 0, 0, 0, 1);
        account("just 300", Checks.of(state, "any; loop 99; any; any; any; end; any;"), 0, 300, 0, 0, 0, 0, 0);
        account("300 and ends", Checks.of(state, "any; loop 99; any; any; any; end; when peace; end;"), 0, 300, 0, 0, 0, 0, 0);
        account("300 within a loop", Checks.of(state, "loop 99; loop 99; day 1; end; end;"), 0, 300, 0, 296, 0, 0, 1);
        account("299", Checks.of(state, "any; loop 99; any; any; any; end;"), 0, 299, 0, 0, 0, 0, 0);
        account("a stop left", Checks.of(state, "any; any; loop 99; any; any; any; end; stop;"), 0, 300, 0, 0, 0, 0, 1);
        account("a when left", Checks.of(state, "any; any; loop 99; any; any; any; end; when peace; end;"), 0, 300, 0, 0, 0, 0, 1);
        account("a loop left", Checks.of(state, "any; any; loop 99; any; any; any; end; loop 2; end;"), 0, 300, 0, 0, 0, 0, 1);
        account("loops of nothing", Checks.of(state, "loop 99; loop 99; end; loop 99; end; loop 99; end; end; any; any; any;"), 0, 300, 0, 0, 0, 0, 1);
    }

    private static void stops() {
        String state = "hair a length 5 up;";
        account("stop", Checks.of(state, "day 1; stop; day 2;"), 0, 2, 0, 1, 0, 0, 0);
        account("stop in a loop", Checks.of(state, "loop 9; day 1; when length a > 7; stop; end; end; day 9;"), 0, 1 + 3 * 2 + 1, 0, 3, 0, 0, 0);
    }

    private static void lived() {
        MoustacheState x = Checks.of(Checks.SAMPLE, "day 3;");
        x.lived(0);
        Checks.due("59: there was none", x.status(), 8);
        x.live(-1);
        x.lived(0);
        Checks.due("59: none with STATUS 0", x.status(), 8);
        x.live(0);
        x.live(10000);
        x.mean(0, 3);
        Checks.gives("59: the latest with STATUS 0", x, x.lived(1), 3);
        Checks.reigns(x, "day 5;");
        Checks.gives("59: as long as there is no other", x, x.lived(1), 3);
        x.live(0);
        Checks.gives("59: the latest", x, x.lived(1), 5);
    }

    private static void mean() {
        MoustacheState x = Checks.of(Checks.SAMPLE, "any; any; when shows sober; trim mid 0; end; day 1; when shows proud; trim tip 0; end;");
        for (int seed = 9960; seed <= 9980; seed += 10) {
            long sum = 0;
            for (int many = 1; many <= 20; many++) {
                MoustacheState alone = Checks.of(Checks.SAMPLE, "any; any; when shows sober; trim mid 0; end; day 1; when shows proud; trim tip 0; end;");
                alone.live(seed + many - 1);
                sum += alone.many(14);
                long divisor = java.math.BigInteger.valueOf(sum).gcd(java.math.BigInteger.valueOf(many)).longValue();
                Checks.fraction("60: mean(" + seed + ", " + many + ")", x, x.mean(seed, many), sum / divisor, many / divisor);
            }
        }
        Checks.due("60: all stays as it is", x.many(14), 67);
        MoustacheState last = Checks.of(Checks.SAMPLE, "day 1;");
        Checks.fraction("60: mean(9999, 1)", last, last.mean(9999, 1), 77, 1);
        Checks.fraction("60: mean(9980, 20)", last, last.mean(9980, 20), 77, 1);
        MoustacheState none = Checks.of("", "day 1;");
        Checks.fraction("60: of nothing", none, none.mean(0, 20), 0, 1);
        MoustacheState busy = Checks.busy();
        busy.mean(5, 20);
        String told = Checks.tell(busy);
        Checks.due("60: all but the FRACTION stays", told.substring(told.indexOf("fault")), tellOf(Checks.busy()));
    }

    private static String tellOf(MoustacheState x) {
        String told = Checks.tell(x);
        return told.substring(told.indexOf("fault"));
    }

    private static void marks() {
        MoustacheState x = Checks.of(Checks.SAMPLE, "day 2; any;");
        String first = tellOf(Checks.of(Checks.SAMPLE, "day 2; any;"));
        Checks.gives("61: mark()", x, x.mark(), 1);
        x.day(1);
        x.graft(5, 5);
        Checks.gives("61: mark()", x, x.mark(), 2);
        Checks.state(x, "odds 9;barber zed;hair zed length 1;");
        Checks.due("61: a FAULT", x.fault(0), 3);
        Checks.state(x, "odds 9;greys 9;barber zed;hair cut length 1;party p seats 1 wants 1;ruler q lip 4;look l down;");
        x.peace(false);
        Checks.reigns(x, "trim cut 0;");
        Checks.gives("61: mark()", x, x.mark(), 3);
        Checks.due("61: a fourth", x.mark(), -1);
        Checks.due("61: a fourth", x.status(), 7);
        x.live(0);
        x.hand();
        Checks.due("62: ahead", x.many(14), 0);
        Checks.gives("62: back()", x, x.back(), 2);
        Checks.due("62: LENGTHS", x.many(14), 1);
        Checks.due("62: war", x.many(9), 0);
        Checks.gives("62: REIGNS", x, x.live(0), 1);
        Checks.gives("62: they are those", x, x.lived(2), 1);
        Checks.gives("62: back()", x, x.back(), 1);
        Checks.due("62: HAIRS", x.many(0), 5);
        Checks.due("62: the DAY", x.many(8), 1);
        Checks.gives("62: NAMES", x, Checks.reigns(x, "wax tip 3;"), 1);
        Checks.reigns(x, "wax cut 3;");
        Checks.due("62: NAMES of the other STATE", x.fault(0), 3);
        Checks.gives("62: back()", x, x.back(), 0);
        Checks.reigns(x, "when shows proud; end;");
        Checks.gives("61: mark() again", x, x.mark(), 1);
        Checks.gives("62: back() again", x, x.back(), 0);
        Checks.refuses("62: none", ReignsTest::unmarked, MoustacheState::back, 8);
        MoustacheState y = Checks.of(Checks.SAMPLE, "day 2; any;");
        y.mark();
        Checks.state(y, "hair other length 3;");
        y.back();
        Checks.due("62: all is taken back", tellOf(y), first);
        Checks.refuses("61: a fourth", ReignsTest::marked, MoustacheState::mark, 7);
        keepsNames();
        keeps();
    }

    private static void keepsNames() {
        MoustacheState x = Checks.sample();
        x.mark();
        Checks.state(x, "look right;hair proud length 3;barber mid;barber odd;hair tip length 4;");
        x.back();
        Checks.gives("62: all NAMES", x, Checks.reigns(x, "wax right 3; when shows odd; end; wax mid 2;"), 3);
        x.live(0);
        Checks.due("62: of what they were", x.hair(3, 3) * 10 + x.hair(2, 3), 32);
        x.mark();
        Checks.state(x, Checks.SAMPLE + "barber one;barber two;");
        x.back();
        Checks.reigns(x, "wax one 3;");
        Checks.due("62: no others", x.fault(0), 3);
    }

    /** What no MARK keeps. */
    private static void keeps() {
        MoustacheState x = Checks.of(Checks.SAMPLE, "day 2;");
        x.mark();
        x.live(0);
        x.tray(0, 0, 1);
        x.write(0, 0, 5);
        x.share(0);
        x.feed(0x20202020, 0, 0, 0, 0);
        x.back();
        Checks.gives("62: lived() stays", x, x.lived(1), 2);
        Checks.gives("62: TRAYS stay", x, x.read(0, 0), 5);
        Checks.due("62: the FRACTION stays", x.bottom(), 13);
        Checks.due("62: the tape stays", x.feed(0, 0, 0, 0, 0), 40);
    }

    private static MoustacheState unmarked() {
        MoustacheState x = Checks.busy();
        x.back();
        return x;
    }

    private static MoustacheState marked() {
        MoustacheState x = Checks.busy();
        x.mark();
        x.day(1);
        x.mark();
        x.day(1);
        return x;
    }

    private static void wrongCalls() {
        int[] wrong = {-1, 10000, Integer.MIN_VALUE, Integer.MAX_VALUE};
        for (int w : wrong) {
            Checks.refuses("58: live(" + w + ")", Checks::busy, x -> x.live(w), 5);
            Checks.refuses("58: live(" + w + ") ahead of no REIGNS", Checks::sample, x -> x.live(w), 5);
            Checks.refuses("59: lived(" + w + ")", Checks::busy, x -> x.lived(w), 5);
            Checks.refuses("59: lived(" + w + ") ahead of none", Checks::sample, x -> x.lived(w), 5);
            Checks.denies("60: mean(" + w + ", 1)", Checks::busy, x -> x.mean(w, 1), 5);
            Checks.denies("60: mean(0, " + w + ")", Checks::busy, x -> x.mean(0, w), 5);
            Checks.denies("60: mean() ahead of no REIGNS", Checks::sample, x -> x.mean(w, w), 5);
        }
        Checks.refuses("58: no REIGNS", Checks::sample, x -> x.live(0), 8);
        Checks.refuses("59: lived(5)", Checks::busy, x -> x.lived(5), 5);
        Checks.refuses("59: there was none", Checks::sample, x -> x.lived(4), 8);
        Checks.denies("60: mean(0, 0)", Checks::busy, x -> x.mean(0, 0), 5);
        Checks.denies("60: mean(0, 21)", Checks::busy, x -> x.mean(0, 21), 5);
        Checks.denies("60: the last above 9,999", Checks::busy, x -> x.mean(9981, 20), 5);
        Checks.denies("60: the last above 9,999", Checks::busy, x -> x.mean(9999, 2), 5);
        Checks.denies("60: no REIGNS", Checks::sample, x -> x.mean(0, 1), 8);
    }
}
