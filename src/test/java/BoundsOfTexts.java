/** Promises 9 to 12 at their bounds, and those of the texts in the Terms. */
final class BoundsOfTexts {
    private static final String NAMED = "hair tip length 10;look proud up;party mob seats 1 wants 1;ruler otto lip 1;barber al;";

    private BoundsOfTexts() {
    }

    static void all() {
        feed();
        bytesOfFeed();
        howManyBytes();
        longestTexts();
        cutTexts();
        eachByte();
        numbersOfStates();
        numbersOfReigns();
        names();
        namesTaken();
        placesTaken();
        sets();
        pairs();
        without();
        numbered();
        first();
        stateTaken();
        namesInReigns();
        stepsOfReigns();
        depthOfReigns();
        faultTells();
    }

    private static void feed() {
        MoustacheState x = new MoustacheState();
        for (int n = 20; n <= 900; n += 20) {
            Checks.due("9: feed()", x.feed(0, 0, 0, 0, 0), n);
        }
        Checks.due("9: more than 900", x.feed(0x20202020, 0, 0, 0, 0), -1);
        Checks.due("9: more than 900 again", x.feed(0, 0, 0, 0, 0), -1);
        Checks.gives("9: 900 are there still", x, x.reigns(0), 0);
        Checks.due("9: none is there then", x.feed(0, 0, 0, 0, 0), 20);
        Checks.due("12: nothing of what was fed", x.fault(0), 0);
    }

    /** Each of the twenty bytes is looked at where it comes to stand. */
    private static void bytesOfFeed() {
        for (int place = 0; place < 20; place++) {
            int[] five = {0x20202020, 0x20202020, 0x20202020, 0x20202020, 0x20202020};
            five[place / 4] ^= (0x20 ^ 0xff) << 8 * (3 - place % 4);
            MoustacheState x = new MoustacheState();
            x.feed(0x20202020, 0x20202020, 0x20202020, 0x20202020, 0x0a0a0a0a);
            Checks.due("9: behind those on the tape", x.feed(five[0], five[1], five[2], five[3], five[4]), 40);
            Checks.due("10: a byte that is no TOKEN", x.state(40), -1);
            Checks.due("12: the highest of each int first", x.fault(1), 20 + place);
        }
    }

    private static MoustacheState taped() {
        MoustacheState x = Checks.busy();
        for (int i = 0; i < 15; i++) {
            x.feed(0x20202020, 0x20202020, 0x20202020, 0x20202020, 0x20202020);
        }
        return x;
    }

    private static void howManyBytes() {
        Bounds.takes("10: how many bytes", Bounds::full, (x, n) -> x.state(n), 0, 900, 5);
        Bounds.takes("11: how many bytes", Bounds::full, (x, n) -> x.reigns(n), 0, 300, 5);
        Bounds.takes("10: how many bytes of none", MoustacheState::new, (x, n) -> x.state(n), 0, 0, 5);
        Bounds.takes("11: how many bytes of none", MoustacheState::new, (x, n) -> x.reigns(n), 0, 0, 5);
        Checks.refuses("10: more than there are", BoundsOfTexts::taped, x -> x.state(321), 5);
        Checks.refuses("11: as many as there are, but above 300", BoundsOfTexts::taped, x -> x.reigns(320), 5);
        MoustacheState x = Bounds.full();
        x.state(901);
        x.reigns(301);
        Checks.due("10, 11: the tape stays with 5", x.feed(0, 0, 0, 0, 0), -1);
        Checks.gives("10: the tape is taken", x, x.state(900), 0);
        Checks.due("10: the tape is empty then", x.feed(0x20202020, 0, 0, 0, 0), 20);
        Checks.gives("11: the first bytes are taken", x, x.reigns(4), 0);
        Checks.due("11: the tape is empty then", x.feed(0, 0, 0, 0, 0), 20);
        Checks.due("10: a FAULT", x.state(1), -1);
        Checks.due("10: the tape is empty with a FAULT", x.feed(0, 0, 0, 0, 0), 20);
        Checks.due("11: a FAULT", x.reigns(20), -1);
        Checks.due("11: the tape is empty with a FAULT", x.feed(0, 0, 0, 0, 0), 20);
    }

    private static String filled(String text, int bytes) {
        return " ".repeat(bytes - text.length()) + text;
    }

    private static void longestTexts() {
        MoustacheState x = new MoustacheState();
        Checks.gives("10: a STATE of 900 bytes", x, Checks.state(x, filled(Bounds.FULL, 900)), 8);
        int[] due = {8, 5, 6, 6, 6, 10, 16, 1};
        for (int what = 0; what < due.length; what++) {
            Checks.gives("13: of 900 bytes many(" + what + ")", x, x.many(what), due[what]);
        }
        Checks.gives("11: REIGNS of 300 bytes", x, Checks.reigns(x, filled(Bounds.FULL_REIGNS, 300)), 30);
        fault(new MoustacheState(), "odds 7;" + " ".repeat(892) + "!", true, 1, 899);
        fault(new MoustacheState(), " ".repeat(896) + "odds", true, 2, 900);
        fault(new MoustacheState(), " ".repeat(297) + "day", false, 2, 300);
        fault(new MoustacheState(), " ".repeat(299) + "!", false, 1, 299);
        fault(new MoustacheState(), ";".repeat(900), true, 2, 0);
        fault(new MoustacheState(), "a".repeat(900), true, 2, 0);
        fault(new MoustacheState(), "1".repeat(900), true, 1, 0);
    }

    /** A text that ends at any of its bytes, with the others behind it on the tape. */
    private static void cutTexts() {
        for (int n = 0; n <= Bounds.FULL.length(); n++) {
            MoustacheState x = new MoustacheState();
            Checks.tape(x, Bounds.FULL);
            cut(x, Bounds.FULL.substring(0, n), true);
        }
        for (int n = 0; n <= Bounds.FULL_REIGNS.length(); n++) {
            MoustacheState x = Checks.of(Bounds.FULL);
            Checks.tape(x, Bounds.FULL_REIGNS);
            cut(x, Bounds.FULL_REIGNS.substring(0, n), false);
        }
    }

    private static void cut(MoustacheState x, String text, boolean ofState) {
        int due = -1;
        int kind = 0;
        int place = -1;
        ModelTexts model = new ModelTexts(text);
        try {
            if (ofState) {
                due = model.state().hairs.size();
            } else {
                model.reigns(new ModelTexts(Bounds.FULL).state().names);
                due = model.steps;
            }
        } catch (ModelTexts.Fault f) {
            kind = f.kind;
            place = f.place;
        }
        int n = text.length();
        Checks.due((ofState ? "10" : "11") + ": the first " + n + " bytes", ofState ? x.state(n) : x.reigns(n), due);
        Checks.due("12: the FAULT of the first " + n + " bytes", x.fault(0), kind);
        Checks.due("12: its place in the first " + n + " bytes", x.fault(1), place);
    }

    private static void fault(MoustacheState x, String text, boolean ofState, int kind, int place) {
        String told = (ofState ? "10: " : "11: ") + text;
        Checks.meets(told, 10);
        Checks.due(told, ofState ? Checks.state(x, text) : Checks.reigns(x, text), -1);
        Checks.due(told + ": status()", x.status(), 10);
        Checks.due("12: the FAULT of " + text, x.fault(0), kind);
        Checks.due("12: the FAULT's place in " + text, x.fault(1), place);
        Checks.due(told + ": the tape is empty", x.feed(0, 0, 0, 0, 0), 20);
    }

    private static void stateFault(String text, int kind, int place) {
        fault(new MoustacheState(), text, true, kind, place);
        MoustacheState x = Checks.busy();
        x.state(20);
        MoustacheState y = Checks.busy();
        y.state(20);
        fault(x, text, true, kind, place);
        Checks.due("10: the old STATE and its REIGNS stay behind " + text, rest(x, 20), rest(y, 0));
    }

    /** All but the FRACTION, the FAULT and the tape, which are told in the first line and at the end of one. */
    private static String rest(MoustacheState x, int onTape) {
        String told = Checks.tell(x).replace("tape " + (onTape + 20), "tape");
        return told.substring(told.indexOf('\n'));
    }

    private static void reignsFault(String text, int kind, int place) {
        MoustacheState x = Checks.of(NAMED, "day 3;");
        fault(x, text, false, kind, place);
        MoustacheState y = Checks.of(NAMED, "day 3;");
        Checks.due("11: all stays behind " + text, rest(x, 20), rest(y, 0));
    }

    private static void stateTakes(String text) {
        MoustacheState x = new MoustacheState();
        x.feed(0x21212121, 0, 0, 0, 0);
        x.state(1);
        int hairs = text.split("hair ", -1).length - 1;
        Checks.gives("10: " + text, x, Checks.state(x, text), hairs);
        Checks.due("12: no FAULT of " + text, x.fault(0), 0);
        Checks.due("12: no place of " + text, x.fault(1), -1);
    }

    private static void reignsTake(String text, int steps) {
        MoustacheState x = Checks.of(NAMED);
        x.feed(0x21212121, 0, 0, 0, 0);
        x.reigns(1);
        Checks.gives("11: " + text, x, Checks.reigns(x, text), steps);
        Checks.due("12: no FAULT of " + text, x.fault(0), 0);
        Checks.due("12: no place of " + text, x.fault(1), -1);
    }

    /** Of all bytes 10 and 32 are blanks; letters, digits and four SIGNS begin TOKENS. */
    private static void eachByte() {
        for (int b = 0; b < 256; b++) {
            char c = (char) b;
            boolean begins = c >= 'a' && c <= 'z' || c >= '0' && c <= '9' || ";<>=".indexOf(c) >= 0;
            boolean blank = b == 10 || b == 32;
            if (blank) {
                stateTakes(" " + c);
                reignsTake(" " + c, 0);
                stateTakes("odds" + c + "3" + c + ";");
                reignsTake("day" + c + "3" + c + ";", 1);
            } else {
                fault(new MoustacheState(), " " + c, true, begins ? 2 : 1, 1);
                fault(new MoustacheState(), " " + c, false, begins ? 2 : 1, 1);
                if (!begins) {
                    fault(new MoustacheState(), "odds" + c + "3;", true, 1, 4);
                    fault(new MoustacheState(), "day 3" + c + ";", false, 1, 5);
                }
            }
        }
    }

    private static void numbersOfStates() {
        stateNumber("odds # ;", 0, 16);
        stateNumber("greys # ;", 1, 99);
        stateNumber("hair a length # ;", 0, 99);
        stateNumber("hair a length 0 grows # ;", 0, 9);
        stateNumber("party a seats # wants 1;", 1, 99);
        stateNumber("party a seats 1 wants # ;", 0, 99);
        stateNumber("ruler a lip # ;", 0, 9);
    }

    private static void stateNumber(String text, int least, int most) {
        int place = text.indexOf('#');
        stateTakes(text.replace("#", "" + least));
        stateTakes(text.replace("#", "" + most));
        stateTakes(text.replace("#", String.format("%04d", most)));
        stateFault(text.replace("#", "" + (most + 1)), 4, place);
        stateFault(text.replace("#", "9999"), 4, place);
        stateFault(text.replace("#", String.format("%05d", most)), 1, place);
        stateFault(text.replace("#", "10000"), 1, place);
        stateFault(text.replace("#", "4294967297"), 1, place);
        // A blank stands behind the NUMBER's place.
        stateFault(text.replace("#", ""), 2, place + 1);
        stateFault(text.replace("#", "x"), 2, place);
        stateFault(text.substring(0, place), 2, place);
        if (least > 0) {
            stateFault(text.replace("#", "" + (least - 1)), 4, place);
            stateFault(text.replace("#", "000" + (least - 1)), 4, place);
        }
    }

    private static void numbersOfReigns() {
        reignsNumber("day # ;", 1, 20);
        reignsNumber("wax tip # ;", 0, 99);
        reignsNumber("trim tip # ;", 0, 99);
        reignsNumber("vote tip # ;", 0, 99);
        reignsNumber("when length tip < # ;end;", 0, 99);
        reignsNumber("when length tip > # ;end;", 0, 99);
        reignsNumber("when length tip = # ;end;", 0, 99);
        reignsNumber("loop # ;end;", 1, 99);
    }

    private static void reignsNumber(String text, int least, int most) {
        int place = text.indexOf('#');
        reignsTake(text.replace("#", "" + least), 1);
        reignsTake(text.replace("#", "" + most), 1);
        reignsTake(text.replace("#", String.format("%04d", most)), 1);
        reignsFault(text.replace("#", "" + (most + 1)), 4, place);
        reignsFault(text.replace("#", "9999"), 4, place);
        reignsFault(text.replace("#", String.format("%05d", most)), 1, place);
        reignsFault(text.replace("#", "10000"), 1, place);
        reignsFault(text.replace("#", "4294967297"), 1, place);
        reignsFault(text.replace("#", "tip"), 2, place);
        reignsFault(text.substring(0, place), 2, place);
        if (least > 0) {
            reignsFault(text.replace("#", "" + (least - 1)), 4, place);
        }
    }

    private static void names() {
        String[] parts = {"hair # length 1;", "party # seats 1 wants 1;", "ruler # lip 1;", "look # ;", "barber # ;"};
        for (String part : parts) {
            int place = part.indexOf('#');
            stateTakes(part.replace("#", "a"));
            stateTakes(part.replace("#", "z"));
            stateTakes(part.replace("#", "abcdefgh"));
            stateTakes(part.replace("#", "zzzzzzzz"));
            stateFault(part.replace("#", "abcdefghi"), 2, place);
            stateFault(part.replace("#", "zzzzzzzzz"), 2, place);
            stateFault(part.replace("#", "7"), 2, place);
            stateFault(part.replace("#", "A"), 1, place);
            stateFault(part.replace("#", "ab7"), 2, place + 2);
        }
        stateFault("barber abcdefgh;barber abcdefgh;", 3, 23);
        stateTakes("barber abcdefgh;barber abcdefgi;barber abcdefg;barber bcdefgh;pair abcdefg abcdefgi;");
        stateFault("barber a;pair abcdefghi a;", 2, 14);
        stateFault("barber a;pair a abcdefghi;", 2, 16);
        stateFault("barber aaaaaaaa;pair aaaaaaaaa aaaaaaaa;", 2, 21);
        reignsFault("wax abcdefghi 3;", 2, 4);
        reignsFault("when shows abcdefghi;end;", 2, 11);
        reignsFault("wax tipp 3;", 3, 4);
        reignsFault("wax ti 3;", 3, 4);
    }

    /** One NAME is of one thing alone, in whatever PART it stands. */
    private static void namesTaken() {
        String[] parts = {"hair x length 1;", "party x seats 1 wants 1;", "ruler x lip 1;", "look x ;", "barber x ;"};
        for (String one : parts) {
            for (String other : parts) {
                stateFault(one + other, 3, one.length() + other.indexOf('x'));
                stateTakes(one + other.replace('x', 'y'));
            }
        }
        String[] nobodies = {"hair x length 1;", "party x seats 1 wants 1;", "ruler x lip 1;", "look x ;", ""};
        for (String nobody : nobodies) {
            stateFault("barber y;" + nobody + "pair y x;", 3, 9 + nobody.length() + 7);
            stateFault("barber y;" + nobody + "pair x y;", 3, 9 + nobody.length() + 5);
        }
        stateFault("barber y;pair y x;barber x;", 3, 16);
    }

    private static void placesTaken() {
        oneMore("hair # length 1;", 8);
        oneMore("party # seats 1 wants 1;", 5);
        oneMore("ruler # lip 1;", 6);
        oneMore("look # ;", 6);
        oneMore("barber # ;", 6);
        String pairs = "barber a;barber b;" + "pair a b;".repeat(10);
        stateTakes(pairs);
        stateFault(pairs + "pair a b;", 6, pairs.length());
        stateFault(pairs + "pair", 6, pairs.length());
        stateFault(pairs + "pair a a;", 6, pairs.length());
        stateFault("odds 3;greys 3;odds", 5, 15);
        stateFault("odds 3;greys 3;greys 99;", 5, 15);
        stateFault("odds 2;odds 2;", 5, 7);
        stateFault("greys 20;greys 20;", 5, 9);
    }

    /** So many can be told; at the WORD of one more is a FAULT, whatever follows it. */
    private static void oneMore(String part, int most) {
        StringBuilder all = new StringBuilder();
        for (char c = 'a'; c < 'a' + most; c++) {
            all.append(part.replace('#', c));
        }
        String word = part.substring(0, part.indexOf(' '));
        stateTakes(all.toString());
        stateFault(all + part.replace('#', 'z'), 6, all.length());
        stateFault(all + part.replace('#', 'a'), 6, all.length());
        stateFault(all + word, 6, all.length());
        stateFault(all + word + " !", 6, all.length());
    }

    private static void sets() {
        String one = "hair a length 1;";
        String[] hows = {"up", "flat", "down", "either"};
        for (String how : hows) {
            stateFault("look z " + how + ";", 6, 7);
            stateTakes(one + "look z " + how + ";");
            stateFault(one + "look z " + how + " " + how + ";", 6, 16 + 8 + how.length());
            stateFault(one + "look z " + how + ";hair b length 1;look y up up up;", 6, 16 + 8 + how.length() + 16 + 13);
        }
        String eight = Bounds.FULL.substring(0, Bounds.FULL.indexOf("party"));
        stateTakes(eight + "look z up flat down either up flat down either;");
        stateFault(eight + "look z up flat down either up flat down either up;", 6, eight.length() + 47);
        stateFault(one + "look z up up", 6, 26);
        stateFault(one + "look z up", 2, 25);
        stateFault(one + "look z up day;", 2, 26);
        stateFault(one + "look z up x;", 2, 26);
        stateFault(one + "look z up 1;", 2, 26);
        MoustacheState x = Checks.of("look n;" + one + "look m down;hair b length 1;hair c length 1;look l up either flat;");
        int[][] due = {{3, 3, 3}, {0, 3, 3}, {2, 3, 1}};
        for (int look = 0; look < 3; look++) {
            for (int h = 0; h < 3; h++) {
                Checks.gives("18: HAIRS for which there is no SET: either", x, x.look(look, h), due[look][h]);
            }
        }
    }

    private static void pairs() {
        MoustacheState x = Checks.of("barber a;barber b;pair a b;pair a b;pair b a;");
        Checks.gives("13: told again: one more", x, x.many(5), 3);
        Checks.gives("19: the first", x, x.pair(2, 0), 1);
        Checks.gives("19: the second", x, x.pair(2, 1), 0);
        stateFault("barber a;barber b;pair a a;", 5, 25);
        stateFault("barber a;barber b;pair b b;", 5, 25);
        stateFault("barber a;pair a a", 5, 16);
        stateFault("barber a;barber b;pair a;", 2, 24);
        stateFault("barber a;barber b;pair;", 2, 22);
        stateFault("barber a;barber b;pair a b", 2, 26);
        stateFault("pair a a;", 3, 5);
    }

    private static void without() {
        MoustacheState x = Checks.of("hair a length 7;hair b length 7 up;hair c length 7 down;hair d length 7 grows 0;");
        int[][] due = {{7, 1, 1, 0}, {7, 1, 2, 0}, {7, 1, 0, 0}, {7, 0, 1, 0}};
        for (int h = 0; h < 4; h++) {
            for (int what = 0; what < 4; what++) {
                Checks.gives("14: without: hair(" + h + ", " + what + ")", x, x.hair(h, what), due[h][what]);
            }
        }
        Checks.gives("13: ODDS without", x, x.many(6), 2);
        Checks.gives("13: GREYS without", x, x.many(7), 20);
        MoustacheState said = Checks.of("greys 7;odds 0;");
        Checks.gives("13: ODDS", said, said.many(6), 0);
        Checks.gives("13: GREYS", said, said.many(7), 7);
        stateTakes("hair a length 7 grows 0 down;");
        stateFault("hair a length 7 down grows 0;", 2, 21);
        stateFault("hair a length 7 flat;", 2, 16);
        stateFault("hair a length 7 either;", 2, 16);
        stateFault("hair a length 7 up up;", 2, 19);
        stateFault("hair a grows 1 length 7;", 2, 7);
    }

    /** As they stand, each kind by itself, whatever stands between them. */
    private static void numbered() {
        MoustacheState x = Checks.of("barber z;look l;hair y length 1;party p seats 7 wants 8;ruler q lip 5;barber b;pair b z;hair a length 2;"
                + "look k down up;ruler c lip 6;party o seats 9 wants 4;odds 1;barber m;hair x length 3;pair m b;greys 3;");
        for (int i = 0; i < 3; i++) {
            Checks.gives("10: HAIR " + i, x, x.hair(i, 0), i + 1);
        }
        Checks.gives("10: PARTY 0", x, x.party(0, 0) * 10 + x.party(0, 1), 78);
        Checks.gives("10: PARTY 1", x, x.party(1, 0) * 10 + x.party(1, 1), 94);
        Checks.gives("10: RULER 0", x, x.lip(0), 5);
        Checks.gives("10: RULER 1", x, x.lip(1), 6);
        Checks.gives("10: LOOK 0", x, x.look(0, 0) * 100 + x.look(0, 1) * 10 + x.look(0, 2), 333);
        Checks.gives("10: LOOK 1", x, x.look(1, 0) * 100 + x.look(1, 1) * 10 + x.look(1, 2), 23);
        Checks.gives("10: PAIR 0", x, x.pair(0, 0) * 10 + x.pair(0, 1), 10);
        Checks.gives("10: PAIR 1", x, x.pair(1, 0) * 10 + x.pair(1, 1), 21);
        Checks.gives("10: RULER 0 rules", x, x.ruler(), 0);
    }

    /** The first along the text, whatever its kind. */
    private static void first() {
        stateFault("odds 17;!", 4, 5);
        stateFault("odds 17 17", 4, 5);
        stateFault("odds 3;odds 17;", 5, 7);
        stateFault("hair a length 100;hair a length 1;", 4, 14);
        stateFault("hair a length 1;hair a length 100;", 3, 21);
        stateFault("hair a length 1 hair a length 1;", 2, 16);
        stateFault("barber a;pair a a 12345;", 5, 16);
        reignsFault("wax nobody 100;", 3, 4);
        reignsFault("wax tip 100 100;", 4, 8);
        reignsFault("wax tip 99 100;", 2, 11);
        reignsFault("day 0;end;", 4, 4);
        reignsFault("loop 2;day 21;", 4, 11);
    }

    private static void stateTaken() {
        MoustacheState x = Bounds.full();
        x.wax(7, 99);
        x.hand();
        x.day(99);
        x.peace(false);
        x.state(900);
        Checks.due("10: of nothing", x.many(0) + x.many(1) + x.many(2) + x.many(3) + x.many(4) + x.many(5), 0);
        Checks.refuses("16: nobody rules", () -> Checks.of("hair a length 1;"), MoustacheState::ruler, 8);
        for (int i = 0; i < 3; i++) {
            Checks.state(x, Bounds.FULL);
            Checks.gives("10: nothing is waxed by one ahead", x, x.many(10), 0);
            x.wax(0, 99);
            x.wax(7, 99);
            x.hand();
            x.day(1);
            x.peace(false);
        }
        Checks.state(x, Bounds.FULL);
        Checks.gives("10: DAY 0", x, x.many(8), 0);
        Checks.gives("10: PEACE", x, x.many(9), 1);
        Checks.gives("10: nothing is waxed", x, x.many(10), 0);
        Checks.gives("10: RULER 0 rules", x, x.ruler(), 0);
        Checks.gives("10: LENGTHS", x, x.many(14), 308);
        Checks.due("10: no REIGNS", x.live(0), -1);
        Checks.due("10: no REIGNS: status()", x.status(), 8);
        Checks.due("60: no REIGNS", x.mean(0, 1), false);
        Checks.due("60: no REIGNS: status()", x.status(), 8);
        Checks.gives("10: lived() is of live() still", x, x.lived(1), 21);
        Checks.gives("10: the MARK is there still", x, x.back(), 0);
        Checks.gives("10: with its REIGNS", x, x.live(0), 1 + 2 * (1 + 1 + 3) + 7 + 18 + 1);
    }

    private static void namesInReigns() {
        String[] others = {"proud", "mob", "otto", "al", "nobody"};
        for (String other : others) {
            reignsFault("wax " + other + " 1;", 3, 4);
            reignsFault("trim " + other + " 1;", 3, 5);
            reignsFault("vote " + other + " 1;", 3, 5);
            reignsFault("when length " + other + " = 1;end;", 3, 12);
        }
        String[] noLooks = {"tip", "mob", "otto", "al", "nobody"};
        for (String other : noLooks) {
            reignsFault("when shows " + other + ";end;", 3, 11);
        }
        reignsFault("wax up 1;", 2, 4);
        reignsFault("when shows end;end;", 2, 11);
        MoustacheState bare = new MoustacheState();
        bare.graft(1, 1);
        fault(bare, "wax a 1;", false, 3, 4);
        reignsTake("wax tip 1;trim tip 1;vote tip 1;when length tip = 1;end;when shows proud;end;", 5);
    }

    private static void stepsOfReigns() {
        String[] steps = {"day 1;", "peace;", "war;", "hand;", "any;", "stop;"};
        for (String step : steps) {
            reignsTake(step.repeat(30), 30);
            reignsFault(step.repeat(30) + step, 6, 30 * step.length());
            reignsFault(step.repeat(30) + step.split("[ ;]")[0], 6, 30 * step.length());
        }
        String thirty = "any;".repeat(29);
        String[] last = {"wax tip 1;", "trim tip 1;", "vote tip 1;", "when peace;end;", "loop 1;end;"};
        for (String step : last) {
            reignsTake(thirty + step, 30);
            reignsFault(thirty + "any;" + step, 6, 120);
        }
        reignsTake("loop 1;end;".repeat(27), 27);
        reignsTake("when peace;".repeat(3) + "any;".repeat(27) + "end;end;end;", 30);
        reignsFault("when peace;".repeat(3) + "any;".repeat(27) + "end;end;end;end;", 2, 33 + 108 + 12);
        reignsFault("when peace;".repeat(3) + "any;".repeat(27) + "end;end;", 2, 33 + 108 + 8);
        // Of one TOKEN the least kind.
        reignsFault("when peace;".repeat(3) + "any;".repeat(27) + "when peace;", 6, 33 + 108);
        reignsFault("any;".repeat(30) + "up;", 2, 120);
        reignsFault("any;".repeat(30) + "!", 1, 120);
        reignsTake("", 0);
        MoustacheState x = Checks.of(NAMED);
        Checks.reigns(x, "any;".repeat(30));
        Checks.reigns(x, "any;".repeat(29));
        Checks.gives("11: those ahead do not count", x, Checks.reigns(x, "any;".repeat(30)), 30);
    }

    private static void depthOfReigns() {
        String[] begins = {"when peace;", "loop 1;"};
        for (String one : begins) {
            for (String other : begins) {
                reignsTake(one + other + one + "any;end;end;end;", 4);
                reignsTake(one + other + one + "end;" + other + "end;end;" + one + "end;end;", 5);
                reignsFault(one + other + one + other + "end;end;end;end;", 7, 2 * one.length() + other.length());
                reignsFault(one + other + one + other.substring(0, 4), 7, 2 * one.length() + other.length());
                reignsFault(one + other + one + "end;end;end;end;", 2, 2 * one.length() + other.length() + 12);
                reignsFault(one + other + one + "end;end;", 2, 2 * one.length() + other.length() + 8);
            }
            reignsFault(one, 2, one.length());
            reignsFault(one + "end", 2, one.length() + 3);
            reignsFault(one + "end;end;", 2, one.length() + 4);
        }
        MoustacheState x = Checks.of(NAMED);
        fault(x, "loop 2;loop 2;", false, 2, 14);
        x.state(0);
        fault(x, "loop 2;loop 2;when peace;loop 2;", false, 7, 25);
        x.reigns(0);
        Checks.gives("11: a FAULT leaves nothing begun", x, Checks.reigns(x, "loop 2;loop 2;when peace;end;end;end;"), 3);
        reignsFault("end;", 2, 0);
        reignsFault("when war;end;", 2, 5);
        reignsFault("when;end;", 2, 4);
        reignsFault("when length tip 5;end;", 2, 16);
        reignsFault("when length tip ; 5;end;", 2, 16);
    }

    private static void faultTells() {
        MoustacheState x = new MoustacheState();
        for (int what : new int[] {0, 1, 2, -1, Bounds.LEAST, Bounds.MOST}) {
            Checks.due("12: ahead of any: fault(" + what + ")", x.fault(what), -1);
        }
        x.state(1);
        x.reigns(1);
        Checks.due("12: 5 is of no account", x.fault(0), -1);
        Checks.reigns(x, "  any any");
        Checks.due("12: of reigns()", x.fault(0) * 100 + x.fault(1), 206);
        Checks.state(x, "odds 99;");
        Checks.due("12: of state()", x.fault(0) * 100 + x.fault(1), 405);
        x.state(-1);
        x.reigns(301);
        x.live(0);
        Checks.due("12: the latest with 0 or 10", x.fault(0) * 100 + x.fault(1), 405);
        for (int what : new int[] {2, -1, Bounds.LEAST, Bounds.MOST}) {
            Checks.due("12: for others: fault(" + what + ")", x.fault(what), -1);
        }
        x.reigns(0);
        Checks.due("12: 0 without one", x.fault(0), 0);
        Checks.due("12: NONE without one", x.fault(1), -1);
        Checks.state(x, "!");
        x.state(0);
        Checks.due("12: 0 without one", x.fault(0), 0);
        Checks.due("12: NONE without one", x.fault(1), -1);
    }
}
