import java.lang.reflect.InvocationTargetException;
import java.lang.reflect.Method;
import java.lang.reflect.Modifier;
import java.util.ArrayList;
import java.util.Arrays;
import java.util.List;
import java.util.Map;
import java.util.TreeMap;

/** All promises: each call with all numbers at and beside its ends, one with the other, on objects of many states, held against the model. */
public final class SweepTest {
    private static final List<String> WITHOUT_STATUS = Arrays.asList("status", "fault", "feed", "top", "bottom");
    private static final long[] WRITTEN = {0, -1, 127, 128, 255, 256, -128, -129, 32768, -32769, 65536, 1L << 31, -(1L << 31) - 1, 1L << 32,
        Long.MAX_VALUE, Long.MIN_VALUE};
    // The ends of each number of a call; numbers beside them are tried, too.
    private static final String[] ENDS = {"tray 0,3 0,3 0,60", "write 0,3 0,59 -", "read 0,3 0,59", "pour 0,3 0,3,60 0,3 0,2,60 0,1,60",
        "state 0,20,900", "reigns 0,20,300", "fault 0,1", "many 0,15", "hair 0,3,7 0,3", "party 0,2,4 0,1", "lip 0,1,5", "look 0,2,5 0,3,7",
        "pair 0,2,9 0,1", "copyLengths 0,3", "day 1,99", "wax 0,3,7 0,99", "trim 0,3,7 0,9,99", "vote 0,3,7 0,9,99", "comb 0,3,7 0,2",
        "elect 0,2,4 1,99", "rule 6,7 0,1,16,99", "dream 0,2,5 0,3,7 0,3", "graft 0,99 0,9", "shown 0,2,5", "wrong 0,2,5", "shownIn 0,2,5",
        "reach 0,2,5", "within 0,4", "agree 0,2,5 0,2,5", "lengthIn 0,3,7 0,200", "standsIn 0,3,7 0,200", "longIn 0,3,7 0,99", "greyIn 0,999",
        "poll 0,3,7 0,9,99", "passes 0,3,7", "shortest 0,308,999", "shortestSet 0,67,999", "seen 0,3 0,1,20,30", "watches 0,2,5", "game 0,3",
        "moveOf 1,3", "legible 0,2,5 0,8", "share 0,2,4", "live 0,9999", "lived 0,4", "mean 0,9980,9999 1,20"};

    private static final Map<String, Method> CALLS = new TreeMap<>();
    private static final Map<String, Method> OF_MODEL = new TreeMap<>();

    static {
        for (Method m : MoustacheState.class.getDeclaredMethods()) {
            if (Modifier.isPublic(m.getModifiers()) && !m.getName().equals("status")) {
                CALLS.put(m.getName(), m);
            }
        }
        for (Method m : Model.class.getDeclaredMethods()) {
            if (Modifier.isPublic(m.getModifiers())) {
                OF_MODEL.put(m.getName(), m);
            }
        }
    }

    /** The same calls bring an object and its model to one state. */
    private interface Both {
        void bring(Twin twin) throws ReflectiveOperationException;
    }

    private static final class Twin {
        final MoustacheState x = new MoustacheState();
        final Model model = new Model();
        int status = 0;

        /** Looks at the answer alone, as an object is good for 512 calls. */
        void call(String name, Object... args) throws ReflectiveOperationException {
            Method m = CALLS.get(name);
            tell(m, args, m.invoke(x, args).equals(answerDue(m, args)));
        }

        void callWithStatus(Method m, Object[] args) throws ReflectiveOperationException {
            boolean alike = m.invoke(x, args).equals(answerDue(m, args));
            alike &= x.status() == status && x.top() == model.top() && x.bottom() == model.bottom();
            tell(m, args, alike);
        }

        private void tell(Method m, Object[] args, boolean alike) {
            Checks.due("", alike, true);
            if (!alike) {
                System.out.println(m.getName() + Arrays.toString(args) + " answered otherwise than the model");
            }
        }

        private Object answerDue(Method m, Object[] args) throws ReflectiveOperationException {
            try {
                Object due = OF_MODEL.get(m.getName()).invoke(model, args);
                status = WITHOUT_STATUS.contains(m.getName()) ? status : 0;
                return due;
            } catch (InvocationTargetException e) {
                if (!(e.getCause() instanceof Model.Refused)) {
                    throw e;
                }
                status = ((Model.Refused) e.getCause()).status;
                return m.getReturnType() == boolean.class ? (Object) false : m.getReturnType() == long.class ? (Object) (-1L) : (Object) (-1);
            }
        }

        void text(String how, String text) throws ReflectiveOperationException {
            String padded = text + " ".repeat((20 - text.length() % 20) % 20);
            java.nio.ByteBuffer b = java.nio.ByteBuffer.wrap(padded.getBytes(java.nio.charset.StandardCharsets.ISO_8859_1));
            while (b.hasRemaining()) {
                call("feed", b.getInt(), b.getInt(), b.getInt(), b.getInt(), b.getInt());
            }
            call(how, text.length());
        }
    }

    public static void main(String[] args) throws ReflectiveOperationException {
        Checks.due("calls of the face but status()", CALLS.size(), 60);
        for (Method m : CALLS.values()) {
            for (Both state : states()) {
                sweep(m, state);
            }
        }
        Checks.end();
    }

    private static List<Both> states() {
        List<Both> states = new ArrayList<>();
        states.add(t -> { });
        states.add(SweepTest::bringBusy);
        states.add(SweepTest::bringFull);
        states.add(t -> {
            bringFull(t);
            t.call("peace", false);
            t.call("live", 17);
            t.call("mark");
            t.call("mark");
        });
        states.add(t -> {
            t.text("state", "hair only length 1;look l flat;party p seats 1 wants 0;barber b;ruler r lip 0;");
            for (int i = 0; i < 101; i++) {
                t.call("day", 99);
            }
            t.call("reigns", 0);
            for (int tray = 0; tray < 4; tray++) {
                t.call("tray", tray, 3, tray == 0 ? 0 : 61 - 20 * tray);
            }
        });
        return states;
    }

    private static void bringBusy(Twin t) throws ReflectiveOperationException {
        t.text("state", Checks.SAMPLE);
        t.text("reigns", Checks.SAMPLE_REIGNS);
        t.call("tray", 0, 2, 4);
        t.call("tray", 1, 2, 3);
        t.call("tray", 2, 1, 60);
        t.call("write", 0, 1, 10L);
        t.call("write", 0, 2, 3L);
        t.call("write", 0, 3, 19L);
        t.call("wax", 3, 99);
        t.call("share", 2);
        t.text("reigns", "hand;day 21;");
        t.call("feed", 0x20202020, 0x20202020, 0x20202020, 0x20202020, 0x20202020);
    }

    private static void bringFull(Twin t) throws ReflectiveOperationException {
        t.text("state", Bounds.FULL);
        t.text("reigns", Bounds.FULL_REIGNS);
        for (int tray = 0; tray < 4; tray++) {
            t.call("tray", tray, tray == 3 ? 0 : tray, 60);
            for (int i = 1; i < 40; i += 2) {
                t.call("write", tray, i, tray == 1 ? 50L : 0L);
            }
        }
        t.call("mark");
        for (int i = 0; i < 45; i++) {
            t.call("feed", 0x0a0a0a0a, 0x20202020, 0x20202020, 0x20202020, 0x20202020);
        }
    }

    private static void sweep(Method m, Both state) throws ReflectiveOperationException {
        Object[][] choices = choices(m);
        int all = 1;
        for (Object[] choice : choices) {
            all *= choice.length;
        }
        // A call of many numbers is tried with every so manyeth row of them.
        int stride = all > 1000 ? all / 1000 | 1 : 1;
        for (int row = 0; row < all; row += stride) {
            Object[] args = new Object[choices.length];
            int left = row;
            for (int i = 0; i < args.length; i++) {
                args[i] = choices[i][left % choices[i].length];
                left /= choices[i].length;
            }
            Twin twin = new Twin();
            state.bring(twin);
            twin.callWithStatus(m, args);
            afterwards(twin);
        }
    }

    /** Some of what the call may have changed. */
    private static void afterwards(Twin twin) throws ReflectiveOperationException {
        for (int what = 0; what < 16; what++) {
            twin.call("many", what);
        }
        twin.call("ruler");
        twin.call("fault", 0);
        twin.call("hair", 0, 0);
        twin.call("hair", 7, 2);
        twin.call("look", 5, 7);
        twin.call("read", 0, 0);
        twin.call("read", 1, 2);
        twin.call("read", 2, 59);
        twin.call("lived", 1);
        twin.call("feed", 0, 0, 0, 0, 0);
        twin.call("back");
        twin.callWithStatus(CALLS.get("many"), new Object[] {14});
    }

    private static Object[][] choices(Method m) {
        Class<?>[] types = m.getParameterTypes();
        Object[][] choices = new Object[types.length][];
        for (int i = 0; i < types.length; i++) {
            List<Object> choice = new ArrayList<>();
            if (types[i] == boolean.class) {
                choice.add(true);
                choice.add(false);
            } else if (types[i] == long.class) {
                for (long v : WRITTEN) {
                    choice.add(v);
                }
            } else if (m.getName().equals("feed")) {
                choice.add(0);
                choice.add(Integer.MIN_VALUE);
            } else {
                addEnds(m.getName(), i, choice);
            }
            choices[i] = choice.toArray();
        }
        return choices;
    }

    private static void addEnds(String name, int i, List<Object> choice) {
        for (String row : ENDS) {
            String[] words = row.split(" ");
            if (!words[0].equals(name)) {
                continue;
            }
            for (String end : words[i + 1].split(",")) {
                for (int beside = -1; beside <= 1; beside++) {
                    Object v = Integer.parseInt(end) + beside;
                    if (!choice.contains(v)) {
                        choice.add(v);
                    }
                }
            }
            choice.add(Integer.MIN_VALUE);
            choice.add(Integer.MAX_VALUE);
            return;
        }
        throw new IllegalStateException("no ends of " + name);
    }
}
