/** Promises 21 to 31 at their bounds. */
final class BoundsOfDeeds {
    private BoundsOfDeeds() {
    }

    static void all() {
        day();
        lastDay();
        growth();
        standing();
        peace();
        wax();
        waxEnds();
        trim();
        vote();
        voters();
        hand();
        comb();
        elect();
        rule();
        dream();
        graft();
        graftEighth();
    }

    private static void day() {
        Bounds.takes("21: day()", Bounds::full, (x, days) -> x.day(days), 1, 99, 5);
        Bounds.takes("21: day() of nothing", MoustacheState::new, (x, days) -> x.day(days), 1, 99, 5);
        MoustacheState none = new MoustacheState();
        Checks.gives("21: without HAIRS", none, none.day(99), 0);
        Checks.gives("21: the DAY", none, none.many(8), 99);
    }

    private static MoustacheState onDay(int day) {
        MoustacheState x = Checks.of("hair a length 5;hair b length 5 grows 0 down;");
        int left = day;
        while (left > 0) {
            x.day(Math.min(99, left));
            left -= Math.min(99, left);
        }
        x.trim(0, 5);
        x.comb(0, 1);
        return x;
    }

    private static void lastDay() {
        Checks.refuses("21: one above 9,999", () -> onDay(9999), x -> x.day(1), 7);
        Checks.refuses("21: 99 above 9,999", () -> onDay(9999), x -> x.day(99), 7);
        Checks.refuses("21: the last of two above 9,999", () -> onDay(9998), x -> x.day(2), 7);
        Checks.refuses("21: the last of 99 above 9,999", () -> onDay(9901), x -> x.day(99), 7);
        Checks.refuses("21: 5 ahead of 7", () -> onDay(9999), x -> x.day(100), 5);
        Checks.refuses("21: 5 ahead of 7", () -> onDay(9999), x -> x.day(0), 5);
        MoustacheState one = onDay(9998);
        Checks.gives("21: the last DAY", one, one.day(1), 11);
        Checks.gives("21: 9,999", one, one.many(8), 9999);
        MoustacheState many = onDay(9900);
        Checks.gives("21: the last 99 DAYS", many, many.day(99), 99 + 5);
        Checks.gives("21: 9,999", many, many.many(8), 9999);
        Checks.gives("39: DAY 9,999 does not matter", many, many.lengthIn(0, 200), 99);
    }

    /** GROWS and the LIP of who rules, 99 at most. */
    private static void growth() {
        MoustacheState x = Checks.of("hair a length 0 grows 0;hair b length 0 grows 9;hair c length 81 grows 0;hair d length 90 grows 9;"
                + "hair e length 99 grows 9;ruler p lip 0;ruler q lip 9;");
        Checks.gives("21: by nothing, by 9", x, x.day(1), 0 + 9 + 81 + 99 + 99);
        x.hand();
        Checks.gives("21: by 9, by 18", x, x.day(1), 9 + 27 + 90 + 99 + 99);
        Checks.gives("21: to 99", x, x.day(1), 18 + 45 + 99 + 99 + 99);
        Checks.gives("21: 99 at most", x, x.day(99), 5 * 99);
        MoustacheState still = Checks.of("hair a length 0 grows 0;");
        Checks.gives("21: it never grows", still, still.day(99), 0);
        MoustacheState just = Checks.of("hair a length 0;");
        Checks.gives("21: just 99", just, just.day(99), 99);
        MoustacheState less = Checks.of("hair a length 0;");
        Checks.gives("21: a DAY less", less, less.day(98), 98);
        MoustacheState first = Checks.of("hair a length 7 grows 2;ruler p lip 9;ruler q lip 1;");
        Checks.gives("21: by the LIP of RULER 0", first, first.day(1), 18);
        Checks.gives("39: by the LIP of RULER 0", first, first.lengthIn(0, 2), 40);
        first.hand();
        Checks.gives("21: by the LIP of the next", first, first.day(1), 21);
        MoustacheState free = Checks.of("hair a length 7 grows 2;");
        Checks.gives("21: 0 without RULERS", free, free.day(1), 9);
    }

    private static void standing() {
        for (int from = 0; from <= 2; from++) {
            for (int days = 1; days <= 3; days++) {
                MoustacheState x = Checks.of("hair a length 1;hair b length 1;");
                x.comb(0, from);
                x.wax(1, 99);
                x.day(days);
                Checks.gives("21: it rises to UP at most", x, x.hair(0, 2), Math.min(2, from + days));
                Checks.gives("21: waxed it stays", x, x.hair(1, 2), 1);
                MoustacheState y = Checks.of("hair a length 1;hair b length 1;");
                y.comb(0, from);
                y.wax(1, 99);
                y.peace(false);
                y.day(days);
                Checks.gives("21: it sinks to DOWN at least", y, y.hair(0, 2), Math.max(0, from - days));
                Checks.gives("21: waxed it stays", y, y.hair(1, 2), 1);
            }
        }
    }

    private static MoustacheState inWar() {
        MoustacheState x = Bounds.full();
        x.peace(false);
        return x;
    }

    private static void peace() {
        Checks.denies("22: it is PEACE", Bounds::full, x -> x.peace(true), 9);
        Checks.denies("22: it is war", BoundsOfDeeds::inWar, x -> x.peace(false), 9);
        Checks.denies("22: it is PEACE at first", MoustacheState::new, x -> x.peace(true), 9);
        MoustacheState x = new MoustacheState();
        Checks.gives("22: war", x, x.peace(false));
        Checks.gives("22: PEACE", x, x.peace(true));
        Checks.gives("22: war again", x, x.peace(false));
        Checks.gives("13: it is war", x, x.many(9), 0);
    }

    private static void wax() {
        Bounds.oneOf("23: HAIR", (x, h) -> x.wax(h, 1), 8);
        Bounds.takes("23: DAYS", Bounds::full, (x, days) -> x.wax(7, days), 0, 99, 5);
        Checks.refuses("23: 2 ahead of 5", Bounds::full, x -> x.wax(8, 100), 2);
        MoustacheState x = Bounds.full();
        Checks.gives("23: none ahead", x, x.wax(7, 99), 0);
        Checks.gives("23: 99 ahead", x, x.wax(7, 0), 99);
        Checks.gives("23: 0 ahead", x, x.wax(7, 1), 0);
        Checks.gives("23: in place of those it had", x, x.wax(7, 1), 1);
        x.day(1);
        Checks.gives("23: none is left", x, x.wax(7, 1), 0);
        Checks.gives("23: no other HAIR", x, x.hair(6, 3), 0);
    }

    /** On its last DAY WAX holds, a DAY later it does not. */
    private static void waxEnds() {
        for (int days = 0; days <= 99; days += 33) {
            MoustacheState x = Checks.of("hair a length 1 down;");
            x.wax(0, days);
            if (days > 0) {
                x.day(days);
            }
            Checks.gives("23: held for " + days + " DAYS", x, x.hair(0, 2), 0);
            Checks.gives("23: gone", x, x.hair(0, 3), 0);
            x.day(1);
            Checks.gives("23: it moves a DAY later", x, x.hair(0, 2), 1);
            Checks.gives("23: no DAYS below 0", x, x.hair(0, 3), 0);
        }
        MoustacheState more = Checks.of("hair a length 1 down;");
        more.wax(0, 98);
        more.day(99);
        Checks.gives("23: by one DAY of 99", more, more.hair(0, 2), 1);
        more.comb(0, 0);
        more.wax(0, 99);
        more.day(99);
        Checks.gives("23: by none of 99", more, more.hair(0, 2), 0);
        MoustacheState combed = Checks.of("hair a length 1 down;");
        combed.wax(0, 1);
        Checks.gives("27: a waxed HAIR", combed, combed.comb(0, 2));
        Checks.gives("27: is waxed still", combed, combed.hair(0, 3), 1);
    }

    private static MoustacheState longAndShort() {
        return Checks.of("hair a length 0;hair b length 99;hair c length 1;party p seats 5 wants 0;");
    }

    private static void trim() {
        Bounds.takes("24: HAIR", BoundsOfDeeds::allFlat, (x, h) -> x.trim(h, 0), 0, 7, 2);
        Checks.refuses("24: HAIR 0 of none", MoustacheState::new, x -> x.trim(0, 0), 2);
        Checks.refuses("24: length -1", BoundsOfDeeds::longAndShort, x -> x.trim(1, -1), 5);
        Checks.refuses("24: length 100", BoundsOfDeeds::longAndShort, x -> x.trim(1, 100), 5);
        Checks.refuses("24: as long as it is", BoundsOfDeeds::longAndShort, x -> x.trim(1, 99), 9);
        Checks.refuses("24: 0 as it is", BoundsOfDeeds::longAndShort, x -> x.trim(0, 0), 9);
        Checks.refuses("24: longer than it is", BoundsOfDeeds::longAndShort, x -> x.trim(2, 2), 9);
        Checks.refuses("24: 2 ahead of 5", BoundsOfDeeds::longAndShort, x -> x.trim(3, 100), 2);
        Checks.refuses("24: 5 ahead of 9", BoundsOfDeeds::longAndShort, x -> x.trim(0, 100), 5);
        Checks.refuses("24: 5 below 0", BoundsOfDeeds::longAndShort, x -> x.trim(0, -1), 5);
        MoustacheState x = longAndShort();
        Checks.gives("24: 1 is gone", x, x.trim(1, 98), 1);
        Checks.gives("24: 98 are gone", x, x.trim(1, 0), 98);
        Checks.gives("24: the shortest", x, x.trim(2, 0), 1);
        Checks.gives("24: nothing is left", x, x.many(14), 0);
    }

    private static void vote() {
        Bounds.takes("25: HAIR", BoundsOfDeeds::allFlat, (x, h) -> x.vote(h, 0), 0, 7, 2);
        Checks.refuses("25: HAIR 0 of none", MoustacheState::new, x -> x.vote(0, 0), 2);
        Checks.refuses("25: length -1", BoundsOfDeeds::longAndShort, x -> x.vote(1, -1), 5);
        Checks.refuses("25: length 100", BoundsOfDeeds::longAndShort, x -> x.vote(1, 100), 5);
        Checks.refuses("25: as long as it is", BoundsOfDeeds::longAndShort, x -> x.vote(1, 99), 9);
        Checks.refuses("25: 0 as it is", BoundsOfDeeds::longAndShort, x -> x.vote(0, 0), 9);
        Checks.refuses("25: longer than it is", BoundsOfDeeds::longAndShort, x -> x.vote(2, 99), 9);
        Checks.refuses("25: 2 ahead of 5", BoundsOfDeeds::longAndShort, x -> x.vote(3, 100), 2);
        Checks.refuses("25: 5 ahead of 9", BoundsOfDeeds::longAndShort, x -> x.vote(0, 100), 5);
        MoustacheState x = longAndShort();
        Checks.gives("25: to 98", x, x.vote(1, 98), 1);
        Checks.gives("25: it is 98", x, x.hair(1, 0), 98);
        Checks.gives("25: to 0", x, x.vote(1, 0), 1);
        Checks.gives("25: it is 0", x, x.hair(1, 0), 0);
        Checks.gives("25: the shortest", x, x.vote(2, 0), 1);
    }

    /** Nearer, neither, farther: for it, not at all, against it. */
    private static void voters() {
        MoustacheState x = Checks.of("hair a length 10;party p seats 1 wants 6;");
        int[] due = {-1, -1, 0, 1, 1, 1, 1, 1, 1, 1};
        for (int length = 0; length < 10; length++) {
            Checks.gives("44: one that wants 6, to " + length, x, x.poll(0, length), due[length]);
        }
        Checks.gives("25: neither: it does not pass", x, x.vote(0, 2), 0);
        Checks.gives("25: it stays", x, x.hair(0, 0), 10);
        Checks.gives("25: nearer: it passes", x, x.vote(0, 3), 1);
        Checks.gives("25: farther: it does not", x, x.vote(0, 2), 0);
        MoustacheState five = Checks.of("hair a length 50;party p seats 99 wants 0;party q seats 98 wants 1;party r seats 99 wants 99;"
                + "party s seats 98 wants 98;party t seats 1 wants 25;");
        Checks.gives("25: as many for it as against it", five, five.vote(0, 0), 0);
        five.elect(3, 97);
        Checks.gives("25: one more for it", five, five.vote(0, 0), 1);
        MoustacheState none = Checks.of("hair a length 50;");
        Checks.gives("25: without PARTIES", none, none.vote(0, 0), 0);
        Checks.gives("44: without PARTIES", none, none.poll(0, 0), 0);
    }

    private static MoustacheState handedOn() {
        MoustacheState x = Bounds.full();
        for (int r = 1; r <= 5; r++) {
            x.hand();
        }
        return x;
    }

    private static void hand() {
        MoustacheState x = Bounds.full();
        for (int r = 1; r <= 5; r++) {
            Checks.gives("26: to RULER " + r, x, x.hand(), r);
        }
        Checks.refuses("26: no next one of six", BoundsOfDeeds::handedOn, MoustacheState::hand, 9);
        Checks.refuses("26: no next one of one", () -> Checks.of("ruler a lip 1;"), MoustacheState::hand, 9);
        Checks.refuses("26: no next one of none", MoustacheState::new, MoustacheState::hand, 9);
    }

    private static MoustacheState allFlat() {
        MoustacheState x = new MoustacheState();
        for (int i = 0; i < 8; i++) {
            x.graft(5, 5);
        }
        return x;
    }

    private static void comb() {
        Bounds.grants("27: HAIR", BoundsOfDeeds::allFlat, (x, h) -> x.comb(h, 0), 0, 7, 2);
        Bounds.grants("27: how", BoundsOfDeeds::allFlat, (x, how) -> x.comb(7, how), 0, 2, 5);
        Checks.denies("27: HAIR 0 of none", MoustacheState::new, x -> x.comb(0, 0), 2);
        Checks.denies("27: it does", BoundsOfDeeds::allFlat, x -> x.comb(7, 1), 9);
        Checks.denies("27: it does stand DOWN", Bounds::full, x -> x.comb(0, 0), 9);
        Checks.denies("27: it does stand UP", Bounds::full, x -> x.comb(1, 2), 9);
        Checks.denies("27: 2 ahead of 5", Bounds::full, x -> x.comb(8, 3), 2);
        Checks.denies("27: either is no way to stand", Bounds::full, x -> x.comb(7, 3), 5);
    }

    private static void elect() {
        Bounds.oneOfGranted("28: PARTY", (x, p) -> x.elect(p, 7), 5);
        Bounds.grants("28: SEATS", Bounds::full, (x, seats) -> x.elect(4, seats), 1, 99, 5);
        Checks.denies("28: 2 ahead of 5", Bounds::full, x -> x.elect(5, 0), 2);
        MoustacheState x = Bounds.full();
        Checks.gives("28: as many as it has", x, x.elect(4, 98));
        x.elect(4, 1);
        Checks.gives("28: SEATS of all", x, x.many(15), 153);
        Checks.gives("28: WANTS stay", x, x.party(4, 1), 20);
    }

    private static void rule() {
        Bounds.grants("29: what", Bounds::full, (x, what) -> x.rule(what, 5), 6, 7, 5);
        Bounds.grants("29: ODDS", Bounds::full, (x, odds) -> x.rule(6, odds), 0, 16, 5);
        Bounds.grants("29: GREYS", Bounds::full, (x, greys) -> x.rule(7, greys), 1, 99, 5);
        Bounds.grants("29: ODDS of nothing", MoustacheState::new, (x, odds) -> x.rule(6, odds), 0, 16, 5);
        MoustacheState x = Bounds.full();
        Checks.gives("29: as they are", x, x.rule(6, 16));
        x.rule(6, 0);
        Checks.gives("29: GREYS stay", x, x.many(7), 1);
        x.rule(7, 99);
        Checks.gives("29: ODDS stay", x, x.many(6), 0);
        Checks.gives("29: GREYS", x, x.many(7), 99);
    }

    private static void dream() {
        Bounds.oneOfGranted("30: LOOK", (x, look) -> x.dream(look, 5, 0), 6);
        Bounds.oneOfGranted("30: HAIR", (x, h) -> x.dream(0, h, 0), 8);
        Bounds.grants("30: how", Bounds::full, (x, how) -> x.dream(3, 7, how), 0, 3, 5);
        Checks.denies("30: HAIR 0 of none", () -> Checks.of("look a;"), x -> x.dream(0, 0, 0), 2);
        Checks.denies("30: 2 ahead of 5", Bounds::full, x -> x.dream(0, 8, 4), 2);
        Checks.denies("30: 2 ahead of 5", Bounds::full, x -> x.dream(6, 0, 4), 2);
        for (int how = 0; how <= 3; how++) {
            int is = how;
            Checks.denies("30: it is so", () -> dreamt(is), x -> x.dream(5, 7, is), 9);
            MoustacheState x = dreamt(how);
            Checks.gives("30: it is " + how, x, x.look(5, 7), how);
            Checks.gives("30: no HAIR beside it", x, x.look(5, 6), 3);
            Checks.gives("30: no LOOK beside it", x, x.look(4, 7), 0);
        }
    }

    private static MoustacheState dreamt(int how) {
        MoustacheState x = Bounds.full();
        x.dream(5, 7, how);
        return x;
    }

    private static void graft() {
        Bounds.takes("31: LENGTH", Checks::busy, (x, length) -> x.graft(length, 1), 0, 99, 5);
        Bounds.takes("31: GROWS", Checks::busy, (x, grows) -> x.graft(1, grows), 0, 9, 5);
        Bounds.takes("31: LENGTH of the first", MoustacheState::new, (x, length) -> x.graft(length, 1), 0, 99, 5);
        Checks.refuses("31: a ninth", Bounds::full, x -> x.graft(1, 1), 7);
        Checks.refuses("31: 5 (LENGTH) ahead of 7", Bounds::full, x -> x.graft(100, 1), 5);
        Checks.refuses("31: 5 (GROWS) ahead of 7", Bounds::full, x -> x.graft(1, -1), 5);
    }

    private static void graftEighth() {
        MoustacheState x = Checks.of("look a;look b;look c;look d;look e;look f;");
        x.peace(false);
        for (int h = 0; h < 8; h++) {
            Checks.gives("31: HAIR " + h, x, x.graft(90 + h, 9 - h), h);
            Checks.gives("31: its LENGTH", x, x.hair(h, 0), 90 + h);
            Checks.gives("31: what it GROWS", x, x.hair(h, 1), 9 - h);
            Checks.gives("31: FLAT in war, too", x, x.hair(h, 2), 1);
            Checks.gives("31: not waxed", x, x.hair(h, 3), 0);
            for (int look = 0; look < 6; look++) {
                Checks.gives("31: either", x, x.look(look, h), 3);
            }
            x.wax(h, 99);
        }
        x.state(0);
        Checks.gives("31: where one was waxed", x, x.graft(1, 1), 0);
        Checks.gives("31: not waxed", x, x.hair(0, 3), 0);
        for (int h = 1; h < 8; h++) {
            Checks.gives("31: HAIR " + h, x, x.graft(1, 1), h);
        }
        Checks.due("31: a ninth", x.graft(0, 0), -1);
        Checks.due("31: a ninth: status()", x.status(), 7);
        Checks.gives("31: eight", x, x.many(0), 8);
    }
}
