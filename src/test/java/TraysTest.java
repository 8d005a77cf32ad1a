/** Promises 1 to 8. */
public final class TraysTest {
    public static void main(String[] args) {
        newObject();
        fractions();
        trays();
        writeAndRead();
        pours();
        wrongTrays();
        wrongPlaces();
        wrongPours();
        Checks.end();
    }

    private static void newObject() {
        MoustacheState x = new MoustacheState();
        Checks.due("1: status()", x.status(), 0);
        Checks.due("1: top()", x.top(), 0);
        Checks.due("1: bottom()", x.bottom(), 1);
        Checks.due("1: fault(0)", x.fault(0), -1);
        Checks.due("1: fault(1)", x.fault(1), -1);
        for (int what = 0; what <= 15; what++) {
            int due = what == 6 ? 2 : what == 7 ? 20 : what == 9 ? 1 : 0;
            Checks.gives("1: many(" + what + ")", x, x.many(what), due);
        }
        for (int tray = 0; tray < 4; tray++) {
            Checks.due("1: read()", x.read(tray, 0), -1);
            Checks.due("1: TRAY " + tray + " is MISSING", x.status(), 3);
        }
        Checks.due("1: live(0)", x.live(0), -1);
        Checks.due("1: no REIGNS", x.status(), 8);
        Checks.due("1: back()", x.back(), -1);
        Checks.due("1: no MARKS", x.status(), 8);
        Checks.due("1: state(1) of an empty tape", x.state(1), -1);
        Checks.due("1: an empty tape", x.status(), 5);
        Checks.gives("1: state(0)", x, x.state(0), 0);
    }

    private static void fractions() {
        MoustacheState x = Checks.sample();
        x.many(16);
        Checks.due("2: status()", x.status(), 5);
        Checks.due("2: status() again", x.status(), 5);
        x.top();
        x.bottom();
        x.fault(0);
        x.fault(9);
        x.feed(0, 0, 0, 0, 0);
        Checks.due("2: calls without a STATUS leave it", x.status(), 5);
        x.many(0);
        Checks.due("2: status()", x.status(), 0);
        Checks.fraction("3, 4: share(0)", x, x.share(0), 6, 13);
        Checks.fraction("3, 4: share(1)", x, x.share(1), 5, 13);
        x.share(9);
        Checks.due("3: top() stays", x.top(), 5);
        Checks.due("4: bottom() stays", x.bottom(), 13);
    }

    private static void trays() {
        MoustacheState x = new MoustacheState();
        for (int tray = 0; tray < 4; tray++) {
            Checks.gives("5: tray()", x, x.tray(tray, tray, 60));
            for (int place = 0; place < 60; place += 59) {
                Checks.gives("5: all 0", x, x.read(tray, place), 0);
                x.write(tray, place, 3);
            }
            x.read(tray, 60);
            Checks.due("5: so many", x.status(), 4);
            Checks.gives("5: tray() again", x, x.tray(tray, 3 - tray, 60));
            Checks.gives("5: all 0 again", x, x.read(tray, 59), 0);
            Checks.gives("5: tray() of none", x, x.tray(tray, 0, 0));
            x.read(tray, 0);
            Checks.due("5: of none", x.status(), 4);
        }
    }

    private static void writeAndRead() {
        MoustacheState x = new MoustacheState();
        long[] written = {127, 128, -129, 32767, 32768, 2147483647L, 2147483648L, 0x123456789abcdef1L, Long.MIN_VALUE, -1};
        for (int sort = 0; sort < 4; sort++) {
            x.tray(2, sort, written.length);
            for (int i = 0; i < written.length; i++) {
                long v = written[i];
                long due = sort == 0 ? (byte) v : sort == 1 ? (short) v : sort == 2 ? (int) v : v;
                Checks.gives("6: write() " + v, x, x.write(2, i, v));
                Checks.gives("7: read() of sort " + sort, x, x.read(2, i), due);
            }
        }
        Checks.gives("7: all others stay", x, x.read(2, 0), 127);
    }

    private static MoustacheState pourable() {
        MoustacheState x = new MoustacheState();
        x.tray(0, 2, 5);
        x.tray(1, 2, 3);
        x.tray(2, 1, 3);
        for (int i = 0; i < 5; i++) {
            x.write(0, i, i + 1);
        }
        return x;
    }

    private static void row(String what, MoustacheState x, int tray, String due) {
        StringBuilder row = new StringBuilder();
        for (int i = 0; i < 5; i++) {
            row.append(x.read(tray, i)).append(x.status() == 0 ? " " : "! ");
        }
        Checks.due(what, row.toString(), due);
    }

    private static void pours() {
        MoustacheState x = pourable();
        Checks.gives("8: pour()", x, x.pour(0, 1, 1, 0, 3));
        row("8: into", x, 1, "2 3 4 -1! -1! ");
        row("8: from", x, 0, "1 2 3 4 5 ");
        Checks.gives("8: pour() up in the same", x, x.pour(0, 0, 0, 1, 4));
        row("8: as they were", x, 0, "1 1 2 3 4 ");
        Checks.gives("8: pour() down in the same", x, x.pour(0, 2, 0, 0, 3));
        row("8: as they were", x, 0, "2 3 4 3 4 ");
        Checks.gives("8: pour() of none", x, x.pour(0, 0, 1, 2, 0));
        Checks.gives("8: pour() of none at the ends", x, x.pour(0, 5, 1, 3, 0));
        row("8: none", x, 1, "2 3 4 -1! -1! ");
    }

    private static void wrongTrays() {
        int[] wrong = {-1, 4, Integer.MAX_VALUE, Integer.MIN_VALUE};
        for (int w : wrong) {
            Checks.denies("5: no such TRAY", Checks::busy, x -> x.tray(w, 0, 1), 1);
            Checks.denies("5: no such sort", Checks::busy, x -> x.tray(0, w, 1), 1);
            Checks.denies("5: no such TRAY ahead of the rest", Checks::busy, x -> x.tray(w, 0, 61), 1);
        }
        Checks.denies("5: 61 numbers", Checks::busy, x -> x.tray(0, 1, 61), 5);
        Checks.denies("5: very many numbers", Checks::busy, x -> x.tray(2, 1, Integer.MAX_VALUE), 5);
        Checks.denies("5: below 0", Checks::busy, x -> x.tray(0, 1, -1), 6);
        Checks.denies("5: far below 0", Checks::busy, x -> x.tray(0, 1, Integer.MIN_VALUE), 6);
    }

    private static void wrongPlaces() {
        int[] wrong = {-1, 4, Integer.MAX_VALUE, Integer.MIN_VALUE};
        for (int w : wrong) {
            Checks.denies("6: no such TRAY", Checks::busy, x -> x.write(w, 0, 1), 1);
            Checks.denies("6: no such place", Checks::busy, x -> x.write(0, w, 1), 4);
            Checks.refuses("7: no such TRAY", Checks::busy, x -> x.read(w, 0), 1);
            Checks.refuses("7: no such place", Checks::busy, x -> x.read(0, w), 4);
        }
        Checks.denies("6: MISSING", Checks::busy, x -> x.write(2, 9, 1), 3);
        Checks.refuses("7: MISSING", Checks::busy, x -> x.read(3, -9), 3);
    }

    private static void wrongPours() {
        int most = Integer.MAX_VALUE;
        Checks.denies("8: no such TRAY", TraysTest::pourable, x -> x.pour(-1, 0, 3, 0, -1), 1);
        Checks.denies("8: no such TRAY to pour to", TraysTest::pourable, x -> x.pour(3, 0, 4, 0, -1), 1);
        Checks.denies("8: MISSING", TraysTest::pourable, x -> x.pour(3, 0, 0, 0, -1), 3);
        Checks.denies("8: MISSING to pour to", TraysTest::pourable, x -> x.pour(2, 0, 3, 0, -1), 3);
        Checks.denies("8: unlike", TraysTest::pourable, x -> x.pour(0, 9, 2, 9, -1), 11);
        Checks.denies("8: below 0", TraysTest::pourable, x -> x.pour(0, 9, 1, -9, -1), 6);
        Checks.denies("8: far below 0", TraysTest::pourable, x -> x.pour(0, 0, 1, 0, Integer.MIN_VALUE), 6);
        Checks.denies("8: from below 0", TraysTest::pourable, x -> x.pour(0, -1, 1, 0, 1), 4);
        Checks.denies("8: to below 0", TraysTest::pourable, x -> x.pour(0, 0, 1, -1, 1), 4);
        Checks.denies("8: too few there", TraysTest::pourable, x -> x.pour(1, 0, 0, 0, 4), 4);
        Checks.denies("8: too few places", TraysTest::pourable, x -> x.pour(0, 0, 1, 0, 4), 4);
        Checks.denies("8: too few from there on", TraysTest::pourable, x -> x.pour(0, 3, 1, 0, 3), 4);
        Checks.denies("8: too few places from there on", TraysTest::pourable, x -> x.pour(0, 0, 1, 2, 2), 4);
        Checks.denies("8: too far", TraysTest::pourable, x -> x.pour(0, most, 1, 0, most), 4);
        Checks.denies("8: place and number wrap around", TraysTest::pourable, x -> x.pour(0, 1, 0, 1, most), 4);
    }
}
