/** Promises 1 to 8 at their bounds. */
final class BoundsOfTrays {
    private BoundsOfTrays() {
    }

    static void all() {
        newObject();
        status();
        fraction();
        tray();
        layAgain();
        cut();
        places();
        pourInOrder();
        pourAtEnds();
        pourWhole();
    }

    private static void newObject() {
        MoustacheState x = new MoustacheState();
        Checks.due("1: STATUS 0", x.status(), 0);
        Checks.due("1: the FRACTION's top", x.top(), 0);
        Checks.due("1: the FRACTION's bottom", x.bottom(), 1);
        for (int tray = 0; tray < 4; tray++) {
            Checks.due("1: TRAY " + tray, x.read(tray, 0), -1);
            Checks.due("1: TRAY " + tray + " is MISSING", x.status(), 3);
        }
        int[] due = {0, 0, 0, 0, 0, 0, 2, 20, 0, 1, 0, 0, 0, 0, 0, 0};
        for (int what = 0; what < due.length; what++) {
            Checks.gives("1: many(" + what + ")", x, x.many(what), due[what]);
        }
        Checks.due("1: an empty tape", x.feed(0, 0, 0, 0, 0), 20);
        Checks.due("1: no MARKS", x.mark(), 1);
        Checks.due("1: two objects have nothing in common", new MoustacheState().mark(), 1);
        Checks.refuses("16: nobody rules", MoustacheState::new, MoustacheState::ruler, 8);
        Checks.refuses("58: no REIGNS", MoustacheState::new, y -> y.live(0), 8);
        Checks.refuses("59: nothing lived", MoustacheState::new, y -> y.lived(0), 8);
        Checks.refuses("62: no MARK", MoustacheState::new, MoustacheState::back, 8);
    }

    /** Each STATUS is told until the next call that has one. */
    private static void status() {
        MoustacheState x = Checks.busy();
        x.tray(3, 1, 1);
        Checks.due("2: status()", x.status(), 0);
        x.read(4, 0);
        told(x, 1);
        x.hair(-1, 0);
        told(x, 2);
        x.read(2, 0);
        told(x, 3);
        x.read(3, 1);
        told(x, 4);
        x.many(-1);
        told(x, 5);
        x.tray(0, 0, -1);
        told(x, 6);
        x.mark();
        x.mark();
        x.mark();
        told(x, 7);
        Checks.of("").reads();
        told(x, 7);
        x.hand();
        told(x, 9);
        x.state(20);
        told(x, 10);
        x.pour(0, 0, 1, 0, 0);
        told(x, 11);
        x.many(0);
        told(x, 0);
        x.many(16);
        x.read(0, 0);
        told(x, 0);
        x.many(16);
        x.write(0, 0, 1);
        told(x, 0);
        MoustacheState none = new MoustacheState();
        none.reads();
        told(none, 8);
    }

    /** The calls without a STATUS leave it, feed() that is refused, too. */
    private static void told(MoustacheState x, int status) {
        Checks.due("2: status() " + status, x.status(), status);
        x.top();
        x.bottom();
        x.fault(0);
        x.fault(-1);
        for (int i = 0; i < 46 && status == 9; i++) {
            x.feed(0, 0, 0, 0, 0);
        }
        x.feed(0, 0, 0, 0, 0);
        Checks.due("2: status() " + status + " stays", x.status(), status);
    }

    private static void fraction() {
        MoustacheState x = Bounds.full();
        Checks.fraction("3, 4: without a common divisor", x, x.share(2), 1, 5);
        x.legible(6, 0);
        x.legible(0, 9);
        x.share(5);
        x.mean(0, 0);
        x.state(901);
        Checks.due("3: top() stays with a refused call", x.top(), 1);
        Checks.due("4: bottom() stays with a refused call", x.bottom(), 5);
        Checks.fraction("3, 4: 0 is 0 by 1", x, x.legible(3, 7), 0, 1);
        Checks.fraction("3, 4: all is 1 by 1", x, x.legible(3, 8), 1, 1);
        x.rule(6, 1);
        Checks.fraction("3, 4: the largest bottom", x, x.legible(3, 0), 2562890625L, 4294967296L);
        x.hair(0, 0);
        x.day(1);
        Checks.due("3: top() stays", x.top(), 2562890625L);
        Checks.due("4: bottom() stays", x.bottom(), 4294967296L);
    }

    private static void tray() {
        Bounds.grants("5: TRAY", Bounds::full, (x, v) -> x.tray(v, 0, 1), 0, 3, 1);
        Bounds.grants("5: sort", Bounds::full, (x, v) -> x.tray(0, v, 1), 0, 3, 1);
        Bounds.grants("5: how many", Bounds::full, (x, v) -> x.tray(3, 2, v), 0, 60, 6, 5);
        Bounds.grants("5: how many of a MISSING one", MoustacheState::new, (x, v) -> x.tray(0, 0, v), 0, 60, 6, 5);
        Checks.denies("5: 1 ahead of 5", Bounds::full, x -> x.tray(4, 0, 61), 1);
        Checks.denies("5: 1 ahead of 6", Bounds::full, x -> x.tray(-1, 0, -1), 1);
        Checks.denies("5: 1 (sort) ahead of 5", Bounds::full, x -> x.tray(0, 4, 61), 1);
        Checks.denies("5: 1 (sort) ahead of 6", Bounds::full, x -> x.tray(0, -1, -1), 1);
    }

    private static void layAgain() {
        MoustacheState x = Bounds.full();
        x.tray(3, 3, 1);
        Checks.gives("5: all 0 when it is laid shorter", x, x.read(3, 0), 0);
        x.read(3, 1);
        Checks.due("5: no second place", x.status(), 4);
        x.tray(3, 3, 60);
        for (int place = 0; place < 60; place++) {
            Checks.gives("5: all 0 when it is laid longer", x, x.read(3, place), 0);
        }
        Checks.gives("5: the other TRAYS stay", x, x.read(2, 59), -3);
    }

    private static void cut() {
        long[][] ends = {{-128, 127}, {-32768, 32767}, {-2147483648L, 2147483647L}, {Long.MIN_VALUE, Long.MAX_VALUE}};
        for (int sort = 0; sort < 4; sort++) {
            long least = ends[sort][0];
            long most = ends[sort][1];
            written(sort, least, least);
            written(sort, most, most);
            written(sort, least - 1, most);
            written(sort, most + 1, least);
            written(sort, -1, -1);
            written(sort, 2 * most + 1, -1);
            written(sort, 2 * most + 2, 0);
        }
    }

    private static void written(int sort, long v, long due) {
        MoustacheState x = new MoustacheState();
        x.tray(sort, sort, 60);
        for (int place = 0; place < 60; place += 59) {
            Checks.gives("6: " + v + " to sort " + sort, x, x.write(sort, place, v));
            Checks.gives("7: " + v + " of sort " + sort, x, x.read(sort, place), due);
        }
        Checks.gives("6: no place beside it", x, x.read(sort, 1), 0);
        Checks.gives("6: no place beside it", x, x.read(sort, 58), 0);
    }

    private static MoustacheState empties() {
        MoustacheState x = Checks.busy();
        x.tray(0, 0, 0);
        x.tray(1, 0, 0);
        x.tray(2, 1, 1);
        return x;
    }

    private static void places() {
        Bounds.grants("6: place", Bounds::full, (x, v) -> x.write(2, v, 5), 0, 59, 4);
        Bounds.takes("7: place", Bounds::full, (x, v) -> x.read(2, v), 0, 59, 4);
        Bounds.grants("6: place of one", BoundsOfTrays::empties, (x, v) -> x.write(2, v, 5), 0, 0, 4);
        Bounds.takes("7: place of one", BoundsOfTrays::empties, (x, v) -> x.read(2, v), 0, 0, 4);
        Checks.denies("6: place 0 of none", BoundsOfTrays::empties, x -> x.write(0, 0, 5), 4);
        Checks.refuses("7: place 0 of none", BoundsOfTrays::empties, x -> x.read(0, 0), 4);
        Bounds.grants("6: TRAY", Bounds::full, (x, v) -> x.write(v, 0, 5), 0, 3, 1);
        Bounds.takes("7: TRAY", Bounds::full, (x, v) -> x.read(v, 0), 0, 3, 1);
        Checks.denies("6: 1 ahead of 4", Bounds::full, x -> x.write(4, 60, 5), 1);
        Checks.refuses("7: 1 ahead of 4", Bounds::full, x -> x.read(-1, 60), 1);
        Checks.denies("6: 3 ahead of 4", MoustacheState::new, x -> x.write(0, -1, 5), 3);
        Checks.refuses("7: 3 ahead of 4", MoustacheState::new, x -> x.read(3, -1), 3);
        MoustacheState x = Bounds.full();
        Checks.gives("7: -1 with STATUS 0", x, x.read(0, 59), -1);
        x.read(0, 60);
        Checks.due("7: NONE with another", x.status(), 4);
    }

    /** TRAY 0 and 1 are alike with 4 and 3 places, 2 is of another sort, 3 is MISSING. */
    private static MoustacheState some() {
        MoustacheState x = Checks.busy();
        x.tray(0, 2, 4);
        x.tray(1, 2, 3);
        x.tray(2, 1, 4);
        for (int i = 0; i < 4; i++) {
            x.write(0, i, i + 1);
            x.write(2, i, i + 1);
        }
        return x;
    }

    private static void pourInOrder() {
        Bounds.grants("8: TRAY", Bounds::full, (x, v) -> x.pour(v, 0, Math.max(0, Math.min(3, v)), 1, 1), 0, 3, 1);
        Bounds.grants("8: TRAY to pour to", Bounds::full, (x, v) -> x.pour(Math.max(0, Math.min(3, v)), 0, v, 1, 1), 0, 3, 1);
        Checks.denies("8: 1 ahead of 3", BoundsOfTrays::some, x -> x.pour(4, 0, 3, 0, 1), 1);
        Checks.denies("8: 1 ahead of 3, to pour to", BoundsOfTrays::some, x -> x.pour(3, 0, -1, 0, 1), 1);
        Checks.denies("8: 3 ahead of 11", BoundsOfTrays::some, x -> x.pour(3, 0, 1, 0, 1), 3);
        Checks.denies("8: 3 ahead of 11, to pour to", BoundsOfTrays::some, x -> x.pour(1, 0, 3, 0, 1), 3);
        Checks.denies("8: 3 ahead of 6 and 4", BoundsOfTrays::some, x -> x.pour(3, -1, 3, -1, -1), 3);
        Checks.denies("8: 11 ahead of 6", BoundsOfTrays::some, x -> x.pour(0, 0, 2, 0, -1), 11);
        Checks.denies("8: 11 ahead of 4", BoundsOfTrays::some, x -> x.pour(2, 4, 0, 4, 1), 11);
        Checks.denies("8: 11 of no numbers", BoundsOfTrays::some, x -> x.pour(2, 0, 0, 0, 0), 11);
        Checks.denies("8: 6 ahead of 4", BoundsOfTrays::some, x -> x.pour(0, -1, 1, 9, -1), 6);
        for (int sort = 0; sort < 4; sort++) {
            for (int other = 0; other < 4; other++) {
                MoustacheState x = new MoustacheState();
                x.tray(0, sort, 1);
                x.tray(1, other, 1);
                Checks.due("8: sort " + sort + " to sort " + other, x.pour(0, 0, 1, 0, 1), sort == other);
                Checks.due("8: sort " + sort + " to sort " + other + ": status()", x.status(), sort == other ? 0 : 11);
            }
        }
    }

    private static void pourAtEnds() {
        Bounds.grants("8: from", BoundsOfTrays::some, (x, v) -> x.pour(0, v, 1, 0, 2), 0, 2, 4);
        Bounds.grants("8: to", BoundsOfTrays::some, (x, v) -> x.pour(0, 0, 1, v, 2), 0, 1, 4);
        Bounds.grants("8: how many there are", BoundsOfTrays::some, (x, v) -> x.pour(1, 0, 0, 0, v), 0, 3, 6, 4);
        Bounds.grants("8: how many places there are", BoundsOfTrays::some, (x, v) -> x.pour(0, 0, 1, 0, v), 0, 3, 6, 4);
        Bounds.grants("8: how many from the last place on", BoundsOfTrays::some, (x, v) -> x.pour(0, 3, 1, 2, v), 0, 1, 6, 4);
        Bounds.grants("8: no numbers from", BoundsOfTrays::some, (x, v) -> x.pour(0, v, 1, 0, 0), 0, 4, 4);
        Bounds.grants("8: no numbers to", BoundsOfTrays::some, (x, v) -> x.pour(0, 0, 1, v, 0), 0, 3, 4);
        Bounds.grants("8: how many of none", BoundsOfTrays::empties, (x, v) -> x.pour(0, 0, 1, 0, v), 0, 0, 6, 4);
    }

    private static void pourWhole() {
        MoustacheState x = new MoustacheState();
        x.tray(0, 3, 60);
        x.tray(1, 3, 60);
        for (int i = 0; i < 60; i++) {
            x.write(0, i, Long.MIN_VALUE + i);
        }
        Checks.gives("8: all sixty", x, x.pour(0, 0, 1, 0, 60));
        Checks.gives("8: all sixty onto themselves", x, x.pour(0, 0, 0, 0, 60));
        Checks.gives("8: one up in the same", x, x.pour(0, 0, 0, 1, 59));
        Checks.gives("8: one down in the same", x, x.pour(1, 1, 1, 0, 59));
        for (int i = 0; i < 60; i++) {
            Checks.gives("8: as they were, up", x, x.read(0, i), Long.MIN_VALUE + Math.max(0, i - 1));
            Checks.gives("8: as they were, down", x, x.read(1, i), Long.MIN_VALUE + Math.min(59, i + 1));
        }
    }
}
