/** Promises 13 to 20 at their bounds. */
final class BoundsOfTelling {
    private BoundsOfTelling() {
    }

    static void all() {
        many();
        setsOfHairs();
        grey();
        hair();
        party();
        rulers();
        look();
        pair();
        copyLengths();
    }

    private static void many() {
        Bounds.takes("13: many()", Bounds::full, (x, what) -> x.many(what), 0, 15, 5);
        Bounds.takes("13: many() of nothing", MoustacheState::new, (x, what) -> x.many(what), 0, 15, 5);
        MoustacheState x = Checks.of(Bounds.FULL);
        int[] due = {8, 5, 6, 6, 6, 10, 16, 1, 0, 1, 0, 0, 18, 129, 308, 250};
        for (int what = 0; what < due.length; what++) {
            Checks.gives("13: all places taken: many(" + what + ")", x, x.many(what), due[what]);
        }
        MoustacheState most = new MoustacheState();
        for (int i = 0; i < 8; i++) {
            most.graft(99, 9);
        }
        Checks.gives("13: the longest", most, most.many(14), 792);
        MoustacheState seats = Checks.of("party a seats 99 wants 1;party b seats 99 wants 1;party c seats 99 wants 1;"
                + "party d seats 99 wants 1;party e seats 99 wants 1;");
        Checks.gives("13: the most SEATS", seats, seats.many(15), 495);
        MoustacheState last = Bounds.onLastDay("hair a length 1;");
        Checks.gives("13: the last DAY", last, last.many(8), 9999);
    }

    private static void setsOfHairs() {
        MoustacheState x = new MoustacheState();
        for (int h = 0; h < 8; h++) {
            x.graft(1, 1);
        }
        for (int h = 0; h < 8; h++) {
            x.comb(h, 2);
            Checks.gives("13: HAIR " + h + " alone UP", x, x.many(12), 1 << h);
            Checks.gives("13: none DOWN", x, x.many(13), 0);
            x.comb(h, 0);
            Checks.gives("13: HAIR " + h + " alone DOWN", x, x.many(13), 1 << h);
            Checks.gives("13: none UP", x, x.many(12), 0);
            x.comb(h, 1);
            x.wax(h, h == 0 ? 99 : 1);
            Checks.gives("13: HAIR " + h + " alone waxed", x, x.many(10), 1 << h);
            x.wax(h, 0);
            Checks.gives("13: none waxed by 0 DAYS", x, x.many(10), 0);
        }
        for (int h = 0; h < 8; h++) {
            x.wax(h, 1);
        }
        Checks.gives("13: all waxed", x, x.many(10), 255);
        x.day(1);
        Checks.gives("13: none waxed a DAY later", x, x.many(10), 0);
        Checks.gives("13: none UP as they were held", x, x.many(12), 0);
        x.day(1);
        Checks.gives("13: all UP", x, x.many(12), 255);
    }

    /** On the last DAY ahead of a step of GREYS and on it; with an even and an odd number of HAIRS. */
    private static void grey() {
        int[][] sets = {{}, {0, 1, 1}, {0, 3, 3}, {0, 5, 7, 7}, {0, 9, 15, 15}, {0, 17, 27, 31, 31}, {0, 33, 51, 63, 63},
            {0, 65, 99, 119, 127, 127}, {0, 129, 195, 231, 255, 255}};
        for (int hairs = 1; hairs <= 8; hairs++) {
            MoustacheState x = new MoustacheState();
            x.rule(7, 2);
            for (int h = 0; h < hairs; h++) {
                x.graft(1, 0);
            }
            for (int step = 0; step < sets[hairs].length; step++) {
                Checks.gives("13: GREY of " + hairs + " on DAY " + 2 * step, x, x.many(11), sets[hairs][step]);
                x.day(1);
                Checks.gives("13: GREY of " + hairs + " on the DAY behind it", x, x.many(11), sets[hairs][step]);
                x.day(1);
            }
        }
        MoustacheState late = Checks.of("greys 99;hair a length 1;hair b length 1;hair c length 1;");
        late.day(98);
        Checks.gives("13: DAY 98 by 99", late, late.many(11), 0);
        late.day(1);
        Checks.gives("13: DAY 99 by 99", late, late.many(11), 5);
        MoustacheState last = Bounds.onLastDay("greys 1;hair a length 1;");
        Checks.gives("13: DAY 9,999 by 1", last, last.many(11), 1);
        MoustacheState none = new MoustacheState();
        none.day(99);
        Checks.gives("13: GREY of none", none, none.many(11), 0);
    }

    private static void hair() {
        Bounds.oneOf("14: HAIR", (x, h) -> x.hair(h, 0), 8);
        Bounds.takes("14: what", Bounds::full, (x, what) -> x.hair(7, what), 0, 3, 5);
        Checks.refuses("14: 2 ahead of 5", Bounds::full, x -> x.hair(8, 4), 2);
        Checks.refuses("14: 2 ahead of 5 of none", MoustacheState::new, x -> x.hair(0, -1), 2);
        MoustacheState x = Checks.of(Bounds.FULL);
        x.wax(0, 99);
        x.wax(7, 1);
        for (int h = 0; h < 8; h++) {
            Checks.gives("14: LENGTH of " + h, x, x.hair(h, 0), Bounds.FULL_LENGTHS[h]);
            Checks.gives("14: GROWS of " + h, x, x.hair(h, 1), Bounds.FULL_GROWS[h]);
            Checks.gives("14: how it stands: " + h, x, x.hair(h, 2), Bounds.FULL_STANDS[h]);
            Checks.gives("14: how long it is waxed: " + h, x, x.hair(h, 3), h == 0 ? 99 : h == 7 ? 1 : 0);
        }
    }

    private static void party() {
        Bounds.oneOf("15: PARTY", (x, p) -> x.party(p, 0), 5);
        Bounds.takes("15: what", Bounds::full, (x, what) -> x.party(4, what), 0, 1, 5);
        Checks.refuses("15: 2 ahead of 5", Bounds::full, x -> x.party(5, 2), 2);
        MoustacheState x = Checks.of(Bounds.FULL);
        int[][] due = {{1, 0}, {99, 99}, {50, 10}, {2, 50}, {98, 20}};
        for (int p = 0; p < 5; p++) {
            Checks.gives("15: SEATS of " + p, x, x.party(p, 0), due[p][0]);
            Checks.gives("15: WANTS of " + p, x, x.party(p, 1), due[p][1]);
        }
    }

    private static void rulers() {
        Bounds.oneOf("17: RULER", (x, r) -> x.lip(r), 6);
        MoustacheState x = Checks.of(Bounds.FULL);
        int[] due = {0, 9, 1, 2, 3, 4};
        for (int r = 0; r < 6; r++) {
            Checks.gives("16: who rules", x, x.ruler(), r);
            Checks.gives("17: LIP of " + r, x, x.lip(r), due[r]);
            x.hand();
        }
        Checks.gives("16: the last rules on", x, x.ruler(), 5);
        MoustacheState one = Checks.of("ruler a lip 9;");
        Checks.gives("16: the only one", one, one.ruler(), 0);
        Checks.refuses("16: none", () -> Checks.of("hair a length 1;party b seats 1 wants 1;"), MoustacheState::ruler, 8);
    }

    private static void look() {
        Bounds.oneOf("18: LOOK", (x, look) -> x.look(look, 0), 6);
        Bounds.oneOf("18: HAIR", (x, h) -> x.look(0, h), 8);
        Checks.refuses("18: HAIR 0 of none", () -> Checks.of("look a;"), x -> x.look(0, 0), 2);
        Checks.refuses("18: LOOK 0 of none", () -> Checks.of("hair a length 1;"), x -> x.look(0, 0), 2);
        MoustacheState x = Checks.of(Bounds.FULL);
        String[] due = {"33333333", "23333333", "03133333", "22222222", "02112110", "33333332"};
        for (int look = 0; look < 6; look++) {
            for (int h = 0; h < 8; h++) {
                Checks.gives("18: look(" + look + ", " + h + ")", x, x.look(look, h), due[look].charAt(h) - '0');
            }
        }
    }

    private static void pair() {
        Bounds.oneOf("19: PAIR", (x, p) -> x.pair(p, 0), 10);
        Bounds.takes("19: what", Bounds::full, (x, what) -> x.pair(9, what), 0, 1, 5);
        Checks.refuses("19: 2 ahead of 5", Bounds::full, x -> x.pair(10, 2), 2);
        Checks.refuses("19: PAIR 0 of none, in spite of BARBERS", () -> Checks.of("barber a;barber b;"), x -> x.pair(0, 0), 2);
        MoustacheState x = Checks.of(Bounds.FULL);
        int[][] due = {{0, 1}, {1, 2}, {2, 3}, {3, 4}, {4, 5}, {5, 0}, {0, 1}, {2, 0}, {1, 3}, {5, 3}};
        for (int p = 0; p < 10; p++) {
            Checks.gives("19: the first of " + p, x, x.pair(p, 0), due[p][0]);
            Checks.gives("19: the second of " + p, x, x.pair(p, 1), due[p][1]);
        }
    }

    private static MoustacheState withPlaces(int places) {
        MoustacheState x = Bounds.full();
        x.tray(0, 0, places);
        for (int i = 0; i < places; i++) {
            x.write(0, i, -7);
        }
        return x;
    }

    private static void copyLengths() {
        Bounds.takes("20: TRAY", Bounds::full, (x, tray) -> x.copyLengths(tray), 0, 3, 1);
        Checks.refuses("20: MISSING", Checks::busy, x -> x.copyLengths(2), 3);
        Checks.refuses("20: MISSING with no HAIRS", MoustacheState::new, x -> x.copyLengths(3), 3);
        Checks.refuses("20: a place too few", () -> withPlaces(7), x -> x.copyLengths(0), 4);
        Checks.refuses("20: no place", () -> withPlaces(0), x -> x.copyLengths(0), 4);
        for (int places = 8; places <= 60; places += 26) {
            MoustacheState x = withPlaces(places);
            Checks.gives("20: to " + places + " places", x, x.copyLengths(0), 8);
            for (int i = 0; i < places; i++) {
                Checks.gives("20: place " + i, x, x.read(0, i), i < 8 ? Bounds.FULL_LENGTHS[i] : -7);
            }
        }
        MoustacheState none = new MoustacheState();
        none.tray(3, 0, 0);
        Checks.gives("20: none to none", none, none.copyLengths(3), 0);
    }
}
