import java.lang.reflect.InvocationTargetException;
import java.lang.reflect.Method;
import java.lang.reflect.Modifier;
import java.util.ArrayList;
import java.util.Arrays;
import java.util.Comparator;
import java.util.List;
import java.util.Random;

/** All promises: runs of up to 512 calls by chance (of a fixed seed), each held against the model. */
public final class RandomRunsTest {
    private static final int[] EDGES = {-2, -1, 16, 17, 20, 21, 60, 61, 98, 99, 100, 199, 200, 201, 300, 301, 900, 901, 998, 999, 1000,
        9979, 9980, 9998, 9999, 10000, Integer.MAX_VALUE, Integer.MIN_VALUE};
    // The calls with the most that each number of theirs can be, or so.
    private static final String[] MOST = {"tray 3 3 60", "write 3 12 0", "read 3 12", "pour 3 9 3 9 9", "copyLengths 3", "seen 3 4", "many 15",
        "fault 1", "hair 7 3", "party 4 1", "lip 5", "look 5 7", "pair 9 1", "day 99", "wax 7 99", "trim 7 99", "vote 7 99", "comb 7 2",
        "elect 4 99", "dream 5 7 3", "graft 99 9", "shown 5", "wrong 5", "shownIn 5", "reach 5", "within 4", "agree 5 5", "lengthIn 7 200",
        "standsIn 7 200", "longIn 7 99", "greyIn 999", "poll 7 99", "passes 7", "shortest 400", "shortestSet 400", "watches 5", "game 3",
        "moveOf 3", "legible 5 8", "share 4", "live 9999", "lived 4", "mean 9999 20"};
    private static final List<String> WITHOUT_STATUS = Arrays.asList("fault", "feed", "top", "bottom");

    private static final List<String> FRACTIONS = Arrays.asList("legible", "share", "mean");

    private final Random random;
    private final MoustacheState x = new MoustacheState();
    private final Model model = new Model();
    private final RandomTexts texts;
    private final StringBuilder told = new StringBuilder();
    private int status = 0;
    private int calls = 0;

    private RandomRunsTest(long seed) {
        // Seeds near each other would begin alike.
        random = new Random(seed * 0x9E3779B97F4A7C15L);
        texts = new RandomTexts(random);
    }

    public static void main(String[] args) throws ReflectiveOperationException {
        int runs = args.length > 0 ? Integer.parseInt(args[0]) : 800;
        List<Method> methods = new ArrayList<>();
        for (Method m : MoustacheState.class.getDeclaredMethods()) {
            if (Modifier.isPublic(m.getModifiers()) && !m.getName().equals("status")) {
                methods.add(m);
            }
        }
        methods.sort(Comparator.comparing(Method::getName));
        Checks.due("methods of the face beside status()", methods.size(), 60);
        for (int run = 0; run < runs; run++) {
            new RandomRunsTest(run).run(methods);
        }
        Checks.end();
    }

    private void run(List<Method> methods) throws ReflectiveOperationException {
        // A text takes up to 47 calls, each with its status().
        while (calls < 512 - 96) {
            int dice = random.nextInt(60);
            if (calls == 0) {
                text("state", texts.state());
            } else if (dice == 0) {
                text("state", texts.brokenState());
            } else if (dice <= 2) {
                text("reigns", random.nextInt(3) == 0 ? texts.brokenReigns() : texts.reigns());
            } else if (dice == 3) {
                sights();
            } else {
                Method m = methods.get(random.nextInt(methods.size()));
                if (!m.getName().equals("state") || random.nextInt(10) == 0) {
                    call(m, arguments(m));
                }
            }
        }
    }

    private void text(String how, String text) throws ReflectiveOperationException {
        // What is left on the tape would stand ahead of the text.
        call(MoustacheState.class.getDeclaredMethod("reigns", int.class), new Object[] {0});
        byte[] bytes = Arrays.copyOf(text.getBytes(java.nio.charset.StandardCharsets.ISO_8859_1), (text.length() + 19) / 20 * 20);
        java.nio.ByteBuffer b = java.nio.ByteBuffer.wrap(bytes);
        Method feed = MoustacheState.class.getDeclaredMethod("feed", int.class, int.class, int.class, int.class, int.class);
        while (b.hasRemaining()) {
            call(feed, new Object[] {b.getInt(), b.getInt(), b.getInt(), b.getInt(), b.getInt()});
        }
        told.append("  text ").append(text.replace("\n", "\\n")).append('\n');
        call(MoustacheState.class.getDeclaredMethod(how, int.class), new Object[] {text.length()});
    }

    private Object[] arguments(Method m) {
        Class<?>[] types = m.getParameterTypes();
        Object[] args = new Object[types.length];
        for (int i = 0; i < types.length; i++) {
            if (types[i] == boolean.class) {
                args[i] = random.nextBoolean();
            } else if (types[i] == long.class) {
                args[i] = random.nextInt(3) == 0 ? random.nextLong() : (long) number();
            } else {
                args[i] = m.getName().equals("feed") ? (Integer) random.nextInt() : (Integer) fitting(m.getName(), i);
            }
        }
        return args;
    }

    /** Mostly a number that could be. */
    private int fitting(String name, int i) {
        for (String row : MOST) {
            String[] words = row.split(" ");
            if (words[0].equals(name) && random.nextInt(8) != 0) {
                return random.nextInt(Integer.parseInt(words[i + 1]) + 1);
            }
        }
        return name.equals("rule") && i == 0 ? 6 + random.nextInt(2) : number();
    }

    /** Some twos in a TRAY that mostly are so of one HAIR. */
    private void sights() throws ReflectiveOperationException {
        Class<?> i = int.class;
        int tray = random.nextInt(4);
        int twos = 1 + random.nextInt(4);
        call(MoustacheState.class.getDeclaredMethod("tray", i, i, i), new Object[] {tray, 1 + random.nextInt(3), 2 * twos + random.nextInt(3)});
        int hairs = model.world.hairs.size();
        int hair = random.nextInt(hairs + 1);
        for (int t = 0; t < twos; t++) {
            int days = random.nextInt(random.nextBoolean() ? 201 : 9);
            int length = hair < hairs ? model.world.in(days).hairs.get(hair).length : random.nextInt(100);
            int off = random.nextInt(9) == 0 ? 1 - random.nextInt(3) : 0;
            Method write = MoustacheState.class.getDeclaredMethod("write", i, i, long.class);
            call(write, new Object[] {tray, 2 * t, (long) days});
            call(write, new Object[] {tray, 2 * t + 1, (long) length + off});
        }
        for (int t = 0; t <= twos + 1; t++) {
            call(MoustacheState.class.getDeclaredMethod("seen", i, i), new Object[] {tray, t});
        }
    }

    private int number() {
        switch (random.nextInt(12)) {
            case 0:
                return EDGES[random.nextInt(EDGES.length)];
            case 1:
                return random.nextInt(10000);
            case 2:
                return random.nextInt(200);
            case 3:
            case 4:
                return random.nextInt(40);
            case 5:
            case 6:
                return random.nextInt(9);
            default:
                return random.nextInt(4);
        }
    }

    private void call(Method m, Object[] args) throws ReflectiveOperationException {
        calls += 2;
        Object got = m.invoke(x, args);
        Object want;
        boolean hasStatus = !WITHOUT_STATUS.contains(m.getName());
        try {
            want = Model.class.getMethod(m.getName(), m.getParameterTypes()).invoke(model, args);
            status = hasStatus ? 0 : status;
        } catch (InvocationTargetException e) {
            if (!(e.getCause() instanceof Model.Refused)) {
                throw e;
            }
            status = ((Model.Refused) e.getCause()).status;
            want = m.getReturnType() == boolean.class ? (Object) false : m.getReturnType() == long.class ? (Object) (-1L) : (Object) (-1);
        }
        told.append("  ").append(m.getName()).append(Arrays.toString(args)).append(" gave ").append(got).append('\n');
        boolean alike = got.equals(want) && x.status() == status;
        if (!alike) {
            System.out.println(told + "due is " + want + " with status " + status + ", not " + x.status());
        }
        Checks.due(m.getName(), alike, true);
        if (FRACTIONS.contains(m.getName())) {
            calls += 2;
            Checks.due(m.getName() + " top", x.top(), model.top());
            Checks.due(m.getName() + " bottom", x.bottom(), model.bottom());
        }
        if (!alike) {
            Checks.end();
        }
    }
}
