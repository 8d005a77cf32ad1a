/** What the tests of bounds share: objects with nothing and with all places taken, the ends of a row of numbers. */
final class Bounds {
    static final int LEAST = Integer.MIN_VALUE;
    static final int MOST = Integer.MAX_VALUE;

    /** As many of each thing as there may be, each NUMBER at an end of its bounds somewhere. */
    static final String FULL = "odds 16;greys 1;"
            + "hair a length 0 grows 0 down;hair b length 99 grows 9 up;hair c length 50;hair d length 7 grows 3;"
            + "hair e length 98 up;hair f length 1 grows 0;hair g length 20 grows 2;hair abcdefgh length 33 grows 9 down;"
            + "party i seats 1 wants 0;party j seats 99 wants 99;party k seats 50 wants 10;party l seats 2 wants 50;"
            + "party m seats 98 wants 20;"
            + "ruler n lip 0;ruler o lip 9;ruler p lip 1;ruler q lip 2;ruler r lip 3;ruler s lip 4;"
            + "look t;look u up;look v down either flat;look w up up up up up up up up;"
            + "look x down up flat flat up flat flat down;look y either either either either either either either up;"
            + "barber za;barber zb;barber zc;barber zd;barber ze;barber zf;"
            + "pair za zb;pair zb zc;pair zc zd;pair zd ze;pair ze zf;pair zf za;pair za zb;pair zc za;pair zb zd;pair zf zd;";
    static final int[] FULL_LENGTHS = {0, 99, 50, 7, 98, 1, 20, 33};
    static final int[] FULL_GROWS = {0, 9, 1, 3, 1, 0, 2, 9};
    static final int[] FULL_STANDS = {0, 2, 1, 1, 2, 1, 1, 0};
    static final String FULL_REIGNS = "loop 2; when peace; loop 3; any; end; end; end; wax abcdefgh 99; trim b 98; vote c 20; hand; war; day 20; day 1; "
            + "any; ".repeat(18) + "stop;";

    interface IntAt {
        long on(MoustacheState x, int v);
    }

    interface BooleanAt {
        boolean on(MoustacheState x, int v);
    }

    private Bounds() {
    }

    /** All places taken: of the STATE, of the TRAYS, of the REIGNS, of the tape; a MARK. */
    static MoustacheState full() {
        MoustacheState x = Checks.of(FULL, FULL_REIGNS);
        for (int tray = 0; tray < 4; tray++) {
            x.tray(tray, tray, 60);
            x.write(tray, 0, tray + 1);
            x.write(tray, 59, -tray - 1);
        }
        x.mark();
        x.live(9999);
        x.back();
        x.mark();
        x.share(4);
        for (int i = 0; i < 45; i++) {
            x.feed(0x20202020, 0x20202020, 0x20202020, 0x20202020, 0x20202020);
        }
        return x;
    }

    /** Numbers of which the first and the last are taken, and no other. */
    static void takes(String what, Checks.Maker maker, IntAt call, int first, int last, int below, int above) {
        for (int v : new int[] {first, last}) {
            MoustacheState x = maker.make();
            call.on(x, v);
            Checks.due(what + " takes " + v + ": status()", x.status(), 0);
        }
        for (int v : new int[] {first - 1, LEAST}) {
            Checks.refuses(what + " refuses " + v, maker, x -> call.on(x, v), below);
        }
        for (int v : new int[] {last + 1, MOST}) {
            Checks.refuses(what + " refuses " + v, maker, x -> call.on(x, v), above);
        }
    }

    static void takes(String what, Checks.Maker maker, IntAt call, int first, int last, int status) {
        takes(what, maker, call, first, last, status, status);
    }

    static void grants(String what, Checks.Maker maker, BooleanAt call, int first, int last, int below, int above) {
        for (int v : new int[] {first, last}) {
            MoustacheState x = maker.make();
            Checks.gives(what + " takes " + v, x, call.on(x, v));
        }
        for (int v : new int[] {first - 1, LEAST}) {
            Checks.denies(what + " refuses " + v, maker, x -> call.on(x, v), below);
        }
        for (int v : new int[] {last + 1, MOST}) {
            Checks.denies(what + " refuses " + v, maker, x -> call.on(x, v), above);
        }
    }

    static void grants(String what, Checks.Maker maker, BooleanAt call, int first, int last, int status) {
        grants(what, maker, call, first, last, status, status);
    }

    /** One of a row of things: of eight, say, 0 to 7; of none not even 0. */
    static void oneOf(String what, IntAt call, int many) {
        takes(what, Bounds::full, call, 0, many - 1, 2);
        Checks.refuses(what + " refuses 0 of none", MoustacheState::new, x -> call.on(x, 0), 2);
    }

    static void oneOfGranted(String what, BooleanAt call, int many) {
        grants(what, Bounds::full, call, 0, many - 1, 2);
        Checks.denies(what + " refuses 0 of none", MoustacheState::new, x -> call.on(x, 0), 2);
    }

    static MoustacheState onLastDay(String text) {
        MoustacheState x = Checks.of(text);
        for (int i = 0; i < 101; i++) {
            x.day(99);
        }
        Checks.due("21: the last DAY", x.many(8), 9999);
        return x;
    }
}
