import java.nio.ByteBuffer;
import java.nio.charset.StandardCharsets;
import java.util.Arrays;
import java.util.Random;

/** Promises 10 to 12: texts by chance (of a fixed seed), sound and broken, and where their FAULTS are by the model. */
public final class RandomTextsTest {
    public static void main(String[] args) {
        int rounds = args.length > 0 ? Integer.parseInt(args[0]) : 20000;
        Random random = new Random(62);
        RandomTexts texts = new RandomTexts(random);
        for (int round = 0; round < rounds; round++) {
            MoustacheState x = new MoustacheState();
            Model model = new Model();
            String state = texts.state();
            taken(x, model, "state", state);
            for (int i = 0; i < 3; i++) {
                taken(x, model, "reigns", i == 0 ? texts.reigns() : texts.brokenReigns());
            }
            taken(x, model, "state", texts.brokenState());
            taken(x, model, "reigns", texts.brokenReigns());
        }
        Checks.end();
    }

    private static void taken(MoustacheState x, Model model, String how, String text) {
        byte[] bytes = Arrays.copyOf(text.getBytes(StandardCharsets.ISO_8859_1), (text.length() + 19) / 20 * 20);
        for (ByteBuffer b = ByteBuffer.wrap(bytes); b.hasRemaining();) {
            int[] five = {b.getInt(), b.getInt(), b.getInt(), b.getInt(), b.getInt()};
            x.feed(five[0], five[1], five[2], five[3], five[4]);
            model.feed(five[0], five[1], five[2], five[3], five[4]);
        }
        boolean isState = how.equals("state");
        int got = isState ? x.state(text.length()) : x.reigns(text.length());
        int want;
        int status = 0;
        try {
            want = isState ? model.state(text.length()) : model.reigns(text.length());
        } catch (Model.Refused r) {
            want = -1;
            status = r.status;
        }
        Checks.due(how + " of " + text, got, want);
        Checks.due(how + " of " + text + " then status()", x.status(), status);
        Checks.due(how + " of " + text + " then fault(0)", x.fault(0), model.fault(0));
        Checks.due(how + " of " + text + " then fault(1)", x.fault(1), model.fault(1));
    }
}
