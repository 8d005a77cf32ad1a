import java.nio.charset.StandardCharsets;
import java.util.Map;
import java.util.Set;
import java.util.TreeMap;
import java.util.TreeSet;

/** What the tests share: texts for the tape, answers that are due, and all that an object tells of itself. */
final class Checks {
    static final String SAMPLE = "odds 4;greys 2;"
            + "hair tip length 10 grows 2 up;hair left length 20 down;hair mid length 30 grows 0;hair right length 7 grows 3;"
            + "party whigs seats 30 wants 5;party tories seats 25 wants 40;party mob seats 10 wants 12;"
            + "ruler otto lip 1;ruler hugo lip 4;"
            + "look proud up up up up;look sober flat down;look odd either flat either up;"
            + "barber al;barber bo;barber cy;pair al bo;pair bo cy;pair al cy;";
    static final String SAMPLE_REIGNS = "day 2; any; trim mid 20; vote left 4; any; hand;";

    private static int wrong = 0;
    private static int asked = 0;
    // By promise, each STATUS with which a call of it was refused.
    private static final Map<Integer, Set<Integer>> MET = new TreeMap<>();

    interface Maker {
        MoustacheState make();
    }

    interface IntCall {
        long on(MoustacheState x);
    }

    interface BooleanCall {
        boolean on(MoustacheState x);
    }

    private Checks() {
    }

    static void due(String what, long got, long want) {
        asked++;
        if (got != want) {
            wrong++;
            System.out.println(what + " answered " + got + ", due is " + want);
        }
    }

    static void due(String what, boolean got, boolean want) {
        due(what, got ? 1 : 0, want ? 1 : 0);
    }

    static void due(String what, String got, String want) {
        asked++;
        if (!got.equals(want)) {
            wrong++;
            System.out.println(what + " told\n  " + got + "\ndue is\n  " + want);
        }
    }

    /** The call's answer with STATUS 0. */
    static void gives(String what, MoustacheState x, long got, long want) {
        due(what, got, want);
        due(what + " then status()", x.status(), 0);
    }

    static void gives(String what, MoustacheState x, boolean got) {
        due(what, got, true);
        due(what + " then status()", x.status(), 0);
    }

    static void fraction(String what, MoustacheState x, boolean told, long top, long bottom) {
        gives(what, x, told);
        due(what + " then top()", x.top(), top);
        due(what + " then bottom()", x.bottom(), bottom);
    }

    /** What is told begins with the promises' numbers, up to a colon. */
    static void meets(String what, int status) {
        for (String promise : what.substring(0, what.indexOf(':')).split(", ")) {
            MET.computeIfAbsent(Integer.valueOf(promise), p -> new TreeSet<>()).add(status);
        }
    }

    static Set<Integer> met(int promise) {
        return MET.getOrDefault(promise, new TreeSet<>());
    }

    /** The call gives NONE with that STATUS, and nothing else is changed by it. */
    static void refuses(String what, Maker maker, IntCall call, int status) {
        meets(what, status);
        MoustacheState x = maker.make();
        due(what, call.on(x), MoustacheState.NONE);
        due(what + " then status()", x.status(), status);
        due(what + " changes nothing", tell(x), tell(maker.make()));
    }

    static void denies(String what, Maker maker, BooleanCall call, int status) {
        meets(what, status);
        MoustacheState x = maker.make();
        due(what, call.on(x), false);
        due(what + " then status()", x.status(), status);
        due(what + " changes nothing", tell(x), tell(maker.make()));
    }

    static void end() {
        System.out.println(asked + " answers, " + wrong + " not as due");
        if (wrong != 0) {
            System.exit(1);
        }
    }

    /** Puts the text on the tape, with blanks behind it up to whole twenties: how long the text is. */
    static int tape(MoustacheState x, String text) {
        byte[] bytes = text.getBytes(StandardCharsets.ISO_8859_1);
        int[] five = new int[5];
        for (int from = 0; from < bytes.length; from += 20) {
            for (int i = 0; i < 5; i++) {
                five[i] = four(bytes, from + 4 * i);
            }
            x.feed(five[0], five[1], five[2], five[3], five[4]);
        }
        return bytes.length;
    }

    private static int four(byte[] bytes, int from) {
        int packed = 0;
        for (int i = from; i < from + 4; i++) {
            packed = packed << 8 | (i < bytes.length ? bytes[i] & 255 : 32);
        }
        return packed;
    }

    static int state(MoustacheState x, String text) {
        return x.state(tape(x, text));
    }

    static int reigns(MoustacheState x, String text) {
        return x.reigns(tape(x, text));
    }

    static MoustacheState of(String text) {
        MoustacheState x = new MoustacheState();
        state(x, text);
        due("state() of " + text + " then status()", x.status(), 0);
        return x;
    }

    static MoustacheState of(String text, String reigns) {
        MoustacheState x = of(text);
        reigns(x, reigns);
        due("reigns() of " + reigns + " then status()", x.status(), 0);
        return x;
    }

    static MoustacheState sample() {
        return of(SAMPLE);
    }

    /** With something of everything: TRAYS, a FRACTION, REIGNS, a life, a MARK, WAX, bytes on the tape. */
    static MoustacheState busy() {
        MoustacheState x = of(SAMPLE, SAMPLE_REIGNS);
        x.tray(0, 0, 4);
        x.write(0, 1, 77);
        x.tray(1, 3, 3);
        x.write(1, 2, -5);
        x.mark();
        x.live(7);
        x.wax(1, 3);
        x.share(1);
        x.feed(1, 2, 3, 4, 5);
        return x;
    }

    /** All that an object tells of itself; the object is spent then. */
    static String tell(MoustacheState x) {
        StringBuilder all = new StringBuilder();
        all.append("fraction ").append(x.top()).append('/').append(x.bottom());
        all.append(" fault ").append(x.fault(0)).append(' ').append(x.fault(1));
        tellState(x, all);
        for (int tray = 0; tray < 4; tray++) {
            all.append("\n  tray");
            for (int place : new int[] {0, 1, 2, 3, 4, 59}) {
                long v = x.read(tray, place);
                all.append(x.status() == 0 ? " " + v : " -" + x.status());
            }
            // A tray's sort shows by what is left of a large number.
            x.write(tray, 0, 0x123456789abcdef1L);
            all.append(" sort ").append(x.read(tray, 0));
        }
        all.append("\n  lived");
        for (int what = 0; what < 5; what++) {
            all.append(' ').append(x.lived(what));
        }
        all.append(" tape ").append(x.feed(0, 0, 0, 0, 0));
        x.mean(3, 5);
        all.append(" mean ").append(x.status()).append(' ').append(x.top()).append('/').append(x.bottom());
        for (int i = 0; i < 4; i++) {
            all.append("\n back ").append(x.back());
            if (x.status() != 0) {
                break;
            }
            tellState(x, all);
        }
        return all.toString();
    }

    private static void tellState(MoustacheState x, StringBuilder all) {
        int[] many = new int[16];
        all.append("\n  many");
        for (int what = 0; what < 16; what++) {
            many[what] = x.many(what);
            all.append(' ').append(many[what]);
        }
        all.append(" ruler ").append(x.ruler());
        for (int h = 0; h < many[0]; h++) {
            all.append(" hair");
            for (int what = 0; what < 4; what++) {
                all.append(' ').append(x.hair(h, what));
            }
            for (int look = 0; look < many[3]; look++) {
                all.append(' ').append(x.look(look, h));
            }
        }
        for (int p = 0; p < many[1]; p++) {
            all.append(" party ").append(x.party(p, 0)).append(' ').append(x.party(p, 1));
        }
        for (int p = 0; p < many[5]; p++) {
            all.append(" pair ").append(x.pair(p, 0)).append(' ').append(x.pair(p, 1));
        }
        for (int r = 0; r < many[2]; r++) {
            all.append(" lip ").append(x.lip(r));
        }
    }
}
