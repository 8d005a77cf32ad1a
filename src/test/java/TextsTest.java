/** Promises 9 to 12, and the grammar of both texts with their FAULTS. */
public final class TextsTest {
    private static final String EIGHT = "hair a length 1;hair b length 1;hair c length 1;hair d length 1;"
            + "hair e length 1;hair f length 1;hair g length 1;hair h length 1;";
    private static final String NAMED = "hair tip length 10;hair mid length 5;look proud up;party mob seats 1 wants 1;barber al;ruler otto lip 1;";

    public static void main(String[] args) {
        feeds();
        takesStates();
        stateReplaces();
        wrongNumbers();
        stateFaultsOfTokens();
        stateFaultsOfNames();
        stateFaultsOfNumbers();
        stateFaultsOfTooMuch();
        takesReigns();
        reignsFaults();
        reignsLimits();
        faultTells();
        Checks.end();
    }

    private static void feeds() {
        MoustacheState x = new MoustacheState();
        for (int i = 1; i <= 45; i++) {
            Checks.due("9: feed()", x.feed(0x20202020, 0x20202020, 0x20202020, 0x20202020, 0x20202020), 20 * i);
        }
        Checks.due("9: feed() beyond 900", x.feed(0, 0, 0, 0, 0), -1);
        Checks.due("9: feed() has no STATUS", x.status(), 0);
        Checks.due("10: state(901)", x.state(901), -1);
        Checks.due("10: state(901) then status()", x.status(), 5);
        Checks.gives("9: 900 blanks are a STATE", x, x.state(900), 0);
        Checks.due("10: the tape is empty then", x.feed(0x6f646473, 0x20373b41, 0x42434445, 0x46474849, 0x4a4b4c4d), 20);
        Checks.gives("10: state(7)", x, x.state(7), 0);
        Checks.due("9: the highest byte first", x.many(6), 7);
        Checks.due("10: all of the tape is gone", x.feed(0, 0, 0, 0, 0), 20);
    }

    private static void takesStates() {
        String[] texts = {"", " \n ", "odds 0;", "odds 16;greys 1;", "greys 99 ; odds 0007;", "odds\n3\n;",
            "hair a length 0;", "hair abcdefgh length 99 grows 0 up;", "hair a length 1 grows 9 down;", "hair a length 1 down;",
            "hair a length 1grows 2up;", "party a seats 1 wants 0;party b seats 99 wants 99;", "ruler a lip 0;ruler b lip 9;",
            "look a;", "look a;hair b length 1;look c either;", "barber a;barber b;pair a b;pair b a;pair a b;",
            EIGHT + "look z up flat down either up flat down either;"};
        for (String text : texts) {
            MoustacheState x = new MoustacheState();
            int hairs = text.split("hair ", -1).length - 1;
            Checks.gives("10: " + text, x, Checks.state(x, text), hairs);
            Checks.due("12: fault(0) of " + text, x.fault(0), 0);
            Checks.due("12: fault(1) of " + text, x.fault(1), -1);
        }
        MoustacheState x = new MoustacheState();
        int n = Checks.tape(x, "hair a length 5;hair b length 6;!");
        Checks.gives("10: the first n bytes alone", x, x.state(n - 1), 2);
        MoustacheState y = new MoustacheState();
        Checks.tape(y, "hair a length 55;");
        Checks.due("10: a NUMBER ends with the text", y.state(15), -1);
        Checks.due("10: the end", y.fault(1), 15);
    }

    private static void stateReplaces() {
        MoustacheState same = new MoustacheState();
        for (int i = 0; i < 4; i++) {
            Checks.gives("10: the same NAMES in another STATE", same, Checks.state(same, Checks.SAMPLE), 4);
        }
        MoustacheState x = Checks.busy();
        x.peace(false);
        x.hand();
        Checks.gives("10: another STATE", x, x.state(0), 0);
        for (int what = 0; what <= 15; what++) {
            Checks.due("10: of nothing: many(" + what + ")", x.many(what), what == 6 ? 2 : what == 7 ? 20 : what == 9 ? 1 : 0);
        }
        x.ruler();
        Checks.due("10: nobody rules", x.status(), 8);
        x.live(0);
        Checks.due("10: no REIGNS", x.status(), 8);
        Checks.gives("10: lived() stays", x, x.lived(1), 2);
        Checks.gives("10: TRAYS stay", x, x.read(0, 1), 77);
        Checks.gives("10: MARKS stay", x, x.back(), 0);
        Checks.due("10: and are of the old STATE", x.many(14), 67);
        Checks.gives("10: with its REIGNS", x, x.live(0), 6);
        MoustacheState y = Checks.busy();
        y.state(20);
        Checks.state(y, Checks.SAMPLE);
        Checks.due("10: DAY 0", y.many(8), 0);
        Checks.due("10: PEACE", y.many(9), 1);
        Checks.due("10: nothing is waxed", y.many(10), 0);
        Checks.due("10: RULER 0", y.ruler(), 0);
    }

    /** With 10 the tape is empty and fault() tells of it, the rest stays. */
    private static MoustacheState busyWithFault(int kind, int place, boolean byState) {
        MoustacheState x = Checks.busy();
        x.state(0 - 1);
        String text = " ".repeat(place) + (kind == 1 ? "!" : "up");
        // The twenty bytes of busy() are no TOKENS: they go with a FAULT of their own.
        x.state(20);
        int n = Checks.tape(x, text);
        if (byState) {
            x.state(n);
        } else {
            x.reigns(n);
        }
        return x;
    }

    private static void wrongNumbers() {
        int[] wrong = {-1, 21, Integer.MIN_VALUE, Integer.MAX_VALUE};
        for (int w : wrong) {
            Checks.refuses("10: state(" + w + ")", Checks::busy, x -> x.state(w), 5);
            Checks.refuses("11: reigns(" + w + ")", Checks::busy, x -> x.reigns(w), 5);
        }
        Checks.refuses("11: above 300", TextsTest::longTape, x -> x.reigns(301), 5);
        MoustacheState x = longTape();
        Checks.gives("11: 300", x, x.reigns(300), 0);
        Checks.due("11: the tape is empty then", x.feed(0, 0, 0, 0, 0), 20);
        for (int kind = 1; kind <= 2; kind++) {
            MoustacheState byState = busyWithFault(kind, 3, true);
            Checks.due("10: status()", byState.status(), 10);
            Checks.due("12: fault(0)", byState.fault(0), kind);
            Checks.due("12: fault(1)", byState.fault(1), 3);
            String told = Checks.tell(byState);
            Checks.due("11: as with REIGNS", Checks.tell(busyWithFault(kind, 3, false)), told);
            MoustacheState still = Checks.busy();
            still.state(20);
            Checks.due("10, 11: all stays", told.substring(told.indexOf('\n')), withoutFirstLine(Checks.tell(still)));
        }
    }

    private static MoustacheState longTape() {
        MoustacheState x = Checks.sample();
        Checks.tape(x, " ".repeat(320));
        return x;
    }

    private static String withoutFirstLine(String told) {
        return told.substring(told.indexOf('\n'));
    }

    private static void stateFault(String text, int kind, int place) {
        MoustacheState x = new MoustacheState();
        Checks.due("10: " + text, Checks.state(x, text), -1);
        Checks.due("10: " + text + " then status()", x.status(), 10);
        Checks.due("12: fault(0) of " + text, x.fault(0), kind);
        Checks.due("12: fault(1) of " + text, x.fault(1), place);
        Checks.due("10: the old one stays", x.many(6), 2);
        Checks.due("10: the tape is empty", x.feed(0, 0, 0, 0, 0), 20);
    }

    private static void stateFaultsOfTokens() {
        stateFault("!", 1, 0);
        stateFault("odds 3;A", 1, 7);
        stateFault("odds !", 1, 5);
        stateFault("odds 12345;", 1, 5);
        stateFault("odds 00003;", 1, 5);
        stateFault("12345", 1, 0);
        stateFault("hair \u00e9;", 1, 5);
        stateFault("\t", 1, 0);
        stateFault("\r", 1, 0);
        stateFault("`", 1, 0);
        stateFault("{", 1, 0);
        stateFault("/", 1, 0);
        stateFault(":", 1, 0);
        stateFault("?", 1, 0);
        stateFault("odds 3,", 1, 6);
        stateFault("\u0000", 1, 0);
        stateFault("look a !", 1, 7);
        stateFault(";", 2, 0);
        stateFault("<", 2, 0);
        stateFault("7", 2, 0);
        stateFault("up;", 2, 0);
        stateFault("day 1;", 2, 0);
        stateFault("tip;", 2, 0);
        stateFault("odds", 2, 4);
        stateFault("odds  \n", 2, 7);
        stateFault("odds 3", 2, 6);
        stateFault("odds;", 2, 4);
        stateFault("odds 3 4;", 2, 7);
        stateFault("greys = 4;", 2, 6);
        stateFault("greys 4 odds 3;", 2, 8);
        stateFault("hair;", 2, 4);
        stateFault("hair 1", 2, 5);
        stateFault("hair tip;", 2, 8);
        stateFault("hair tip 4;", 2, 9);
        stateFault("hair tip length;", 2, 15);
        stateFault("hair tip length up;", 2, 16);
        stateFault("hair tip length 4 flat;", 2, 18);
        stateFault("hair tip length 4 grows;", 2, 23);
        stateFault("hair tip length 4 up grows 3;", 2, 21);
        stateFault("hair tip length 4 up down;", 2, 21);
        stateFault("hair tip length 4 grows 3 grows 3;", 2, 26);
        stateFault("hair tip length 4 up", 2, 20);
        stateFault("party mob wants 3 seats 3;", 2, 10);
        stateFault("party mob seats 3;", 2, 17);
        stateFault("ruler otto 3;", 2, 11);
        stateFault("ruler otto lip 3 lip 4;", 2, 17);
        stateFault("look 3;", 2, 5);
        stateFault("look proud 3;", 2, 11);
        stateFault("look proud", 2, 10);
        stateFault("barber;", 2, 6);
        stateFault("barber al bo;", 2, 10);
        stateFault("barber al;pair al;", 2, 17);
        stateFault("barber al;barber bo;pair al bo al;", 2, 31);
        stateFault("hair abcdefghi length 1;", 2, 5);
        stateFault("barber al;pair abcdefghi al;", 2, 15);
        stateFault("barber al;pair al up;", 2, 18);
        stateFault("hair tip length 1; hair", 2, 23);
    }

    private static void stateFaultsOfNames() {
        String[] reserved = ("odds greys hair length grows up flat down either party seats wants ruler lip look barber pair day peace war"
            + " wax trim vote hand any when shows loop end stop").split(" ");
        Checks.due("the words that are no NAMES", reserved.length, 30);
        for (String word : reserved) {
            stateFault("barber " + word + ";", 2, 7);
            stateFault(word + "x;", 2, 0);
            Checks.gives("10: a NAME that begins so", Checks.of("barber " + word + "x;barber x" + word + ";"), 2, 2);
        }
        String[] things = {"hair x length 1;", "party x seats 1 wants 1;", "ruler x lip 1;", "look x;", "barber x;"};
        for (String one : things) {
            for (String other : things) {
                stateFault(one + other, 3, one.length() + other.indexOf('x'));
            }
            if (!one.startsWith("barber")) {
                stateFault(one + "pair x x;", 3, one.length() + 5);
            }
        }
        stateFault("barber al;pair al bo;barber bo;", 3, 18);
        stateFault("barber al;pair bo al;", 3, 15);
        stateFault("barber al;barber bo;pair al al;", 5, 28);
        stateFault("odds 3;odds 4;", 5, 7);
        stateFault("odds 3;greys 3;greys 4;", 5, 15);
        stateFault("odds 3;odds", 5, 7);
    }

    private static void stateFaultsOfNumbers() {
        stateFault("odds 17;", 4, 5);
        stateFault("odds 9999", 4, 5);
        stateFault("greys 0;", 4, 6);
        stateFault("greys 100;", 4, 6);
        stateFault("hair a length 100;", 4, 14);
        stateFault("hair a length 1 grows 10;", 4, 22);
        stateFault("party a seats 0 wants 1;", 4, 14);
        stateFault("party a seats 100 wants 1;", 4, 14);
        stateFault("party a seats 1 wants 100;", 4, 22);
        stateFault("ruler a lip 10;", 4, 12);
    }

    private static void stateFaultsOfTooMuch() {
        stateFault(EIGHT + "hair", 6, EIGHT.length());
        stateFault(EIGHT + "look z up up up up up up up up up;", 6, EIGHT.length() + 31);
        stateFault("look z up;", 6, 7);
        stateFault("look z either;", 6, 7);
        stateFault("hair a length 1;look z up !", 1, 26);
        stateFault("hair a length 1;look z up up;hair b length 1;", 6, 26);
        StringBuilder parties = new StringBuilder();
        StringBuilder rulers = new StringBuilder();
        StringBuilder looks = new StringBuilder();
        StringBuilder barbers = new StringBuilder();
        for (char c = 'a'; c < 'g'; c++) {
            if (c < 'f') {
                parties.append("party ").append(c).append(" seats 1 wants 1;");
            }
            rulers.append("ruler ").append(c).append(" lip 1;");
            looks.append("look ").append(c).append(";");
            barbers.append("barber ").append(c).append(";");
        }
        Checks.due("5 PARTIES", Checks.of(parties.toString()).many(1), 5);
        Checks.due("6 RULERS", Checks.of(rulers.toString()).many(2), 6);
        Checks.due("6 LOOKS", Checks.of(looks.toString()).many(3), 6);
        Checks.due("6 BARBERS", Checks.of(barbers.toString()).many(4), 6);
        stateFault(parties + "party", 6, parties.length());
        stateFault(rulers + "ruler !", 6, rulers.length());
        stateFault(looks + "look a", 6, looks.length());
        stateFault(barbers + "barber", 6, barbers.length());
        String pairs = barbers + "pair a b;".repeat(10);
        Checks.due("10 PAIRS", Checks.of(pairs).many(5), 10);
        stateFault(pairs + "pair x x;", 6, pairs.length());
    }

    private static void takesReigns() {
        String[] texts = {"", " ", "day 1;", "day 20;peace;war;hand;any;stop;", "wax tip 0;wax mid 99;", "trim tip 0;vote mid 99;",
            "when shows proud;end;", "when length tip<99;end;when length mid > 0;end;when length tip = 7;end;", "when peace;end;",
            "loop 1;end;loop 99;day 3;end;", "loop 2;loop 2;when peace;stop;end;any;end;any;end;any;", "stop;".repeat(30),
            "loop 1;loop 1;loop 1;end;end;end;".repeat(3), "loop 1;end;".repeat(15)};
        int[] steps = {0, 0, 1, 6, 2, 2, 1, 3, 1, 3, 7, 30, 9, 15};
        for (int i = 0; i < texts.length; i++) {
            MoustacheState x = Checks.of(NAMED);
            Checks.gives("11: " + texts[i], x, Checks.reigns(x, texts[i]), steps[i]);
            Checks.due("12: fault(0)", x.fault(0), 0);
            Checks.due("12: fault(1)", x.fault(1), -1);
            Checks.gives("11: they are there: " + texts[i], x, x.mean(0, 1));
        }
        MoustacheState x = Checks.of(NAMED, "day 3;");
        Checks.gives("11: others in their place", x, Checks.reigns(x, "hand;"), 1);
        x.live(0);
        Checks.due("11: only the new ones are lived", x.lived(1), 0);
        MoustacheState y = Checks.of(NAMED);
        Checks.tape(y, "hand;hand;!");
        Checks.gives("11: the first n bytes alone", y, y.reigns(10), 2);
        Checks.due("11: the tape is empty then", y.feed(0, 0, 0, 0, 0), 20);
    }

    private static void reignsFault(String text, int kind, int place) {
        MoustacheState x = Checks.of(NAMED, "day 3;");
        Checks.due("11: " + text, Checks.reigns(x, text), -1);
        Checks.due("11: " + text + " then status()", x.status(), 10);
        Checks.due("12: fault(0) of " + text, x.fault(0), kind);
        Checks.due("12: fault(1) of " + text, x.fault(1), place);
        Checks.due("11: the tape is empty", x.feed(0, 0, 0, 0, 0), 20);
        x.live(0);
        Checks.due("11: the old ones stay", x.lived(1), 3);
    }

    private static void reignsFaults() {
        reignsFault("#", 1, 0);
        reignsFault("day 12345;", 1, 4);
        reignsFault("day 1;\u00ff", 1, 6);
        reignsFault("when length tip ! 3;end;", 1, 16);
        String[] misplaced = {"odds 1;", "hair tip;", "shows proud;", "length tip = 3;", "up;", "tip;", "3;", ";", "=", "end;", "abcdefghi"};
        for (String text : misplaced) {
            reignsFault(text, 2, 0);
        }
        reignsFault("day;", 2, 3);
        reignsFault("day tip;", 2, 4);
        reignsFault("day 3", 2, 5);
        reignsFault("day 3 day 3;", 2, 6);
        reignsFault("war 1;", 2, 4);
        reignsFault("stop 1;", 2, 5);
        reignsFault("wax 3;", 2, 4);
        reignsFault("wax hair 3;", 2, 4);
        reignsFault("wax abcdefghi 3;", 2, 4);
        reignsFault("wax tip;", 2, 7);
        reignsFault("vote tip = 3;", 2, 9);
        reignsFault("when;", 2, 4);
        reignsFault("when war;end;", 2, 5);
        reignsFault("when tip = 3;end;", 2, 5);
        reignsFault("when shows;end;", 2, 10);
        reignsFault("when length;end;", 2, 11);
        reignsFault("when length tip;end;", 2, 15);
        reignsFault("when length tip = tip;end;", 2, 18);
        reignsFault("when length tip < > 3;end;", 2, 18);
        reignsFault("when peace end;", 2, 11);
        reignsFault("when peace;", 2, 11);
        reignsFault("when peace; \n", 2, 13);
        reignsFault("when peace;end", 2, 14);
        reignsFault("when peace;end end;", 2, 15);
        reignsFault("when peace;end;end;", 2, 15);
        reignsFault("loop;end;", 2, 4);
        reignsFault("loop 2;loop 2;end;", 2, 18);
        reignsFault("wax proud 3;", 3, 4);
        reignsFault("wax nobody 3;", 3, 4);
        reignsFault("trim mob 3;", 3, 5);
        reignsFault("vote otto 3;", 3, 5);
        reignsFault("vote al;", 3, 5);
        reignsFault("when shows tip;end;", 3, 11);
        reignsFault("when shows nobody;end;", 3, 11);
        reignsFault("when length proud = 3;end;", 3, 12);
    }

    private static void reignsLimits() {
        reignsFault("day 0;", 4, 4);
        reignsFault("day 21;", 4, 4);
        reignsFault("wax tip 100;", 4, 8);
        reignsFault("trim tip 100;", 4, 9);
        reignsFault("vote tip 100;", 4, 9);
        reignsFault("when length tip = 100;end;", 4, 18);
        reignsFault("loop 0;end;", 4, 5);
        reignsFault("loop 100;end;", 4, 5);
        reignsFault("stop;".repeat(30) + "any", 6, 150);
        reignsFault("stop;".repeat(30) + "end;", 2, 150);
        reignsFault("stop;".repeat(30) + "up;", 2, 150);
        reignsFault("loop 2;loop 2;when peace;loop !", 7, 25);
        reignsFault("when peace;when peace;when peace;when peace;", 7, 33);
        reignsFault("loop 2;loop 2;loop 2;" + "any;".repeat(27) + "loop 2;", 6, 129);
        reignsFault("loop 2;loop 2;loop 2;" + "any;".repeat(27) + "end;end;end;any;", 6, 141);
        reignsFault("loop 2;loop 2;loop 2;end;end;when peace;loop 3;when peace;", 7, 47);
    }

    private static void faultTells() {
        MoustacheState x = new MoustacheState();
        x.state(1);
        Checks.due("12: ahead of any", x.fault(0), -1);
        Checks.state(x, "odds 4;odds 4;");
        Checks.due("12: fault(0)", x.fault(0), 5);
        Checks.due("12: fault(1)", x.fault(1), 7);
        Checks.due("12: fault(2)", x.fault(2), -1);
        Checks.due("12: fault(-1)", x.fault(-1), -1);
        x.many(0);
        x.state(9);
        x.reigns(-9);
        Checks.due("12: stays with 5", x.fault(0), 5);
        Checks.due("12: its place, too", x.fault(1), 7);
        Checks.reigns(x, "any;");
        Checks.due("12: without one", x.fault(0), 0);
        Checks.due("12: no place", x.fault(1), -1);
        Checks.due("12: fault(2)", x.fault(2), -1);
    }
}
