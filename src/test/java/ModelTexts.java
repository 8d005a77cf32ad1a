import java.util.ArrayList;
import java.util.Arrays;
import java.util.List;
import java.util.regex.Matcher;
import java.util.regex.Pattern;

/** The model's reader of both texts: down the grammar, a FAULT is thrown. */
final class ModelTexts {
    static final class Fault extends RuntimeException {
        private static final long serialVersionUID = 1L;
        final int kind;
        final int place;

        Fault(int kind, int place) {
            this.kind = kind;
            this.place = place;
        }
    }

    static final class Step {
        String word;
        String test = "";
        int thing;
        int number;
        List<Step> inner = new ArrayList<>();
    }

    private static final List<String> WORDS = Arrays.asList(("odds greys hair length grows up flat down either party seats wants ruler lip"
        + " look barber pair day peace war wax trim vote hand any when shows loop end stop").split(" "));
    private static final Pattern TOKEN = Pattern.compile("[ \n]*(?:([a-z]+)|([0-9]+)|([;<>=]))");

    private final String text;
    private int at;
    private int place;
    private String token;
    int steps;

    ModelTexts(String text) {
        this.text = text;
    }

    private Fault fault(int kind) {
        return new Fault(kind, place);
    }

    /** The next TOKEN; an empty one at the end. */
    private String peek() {
        String rest = text.substring(at);
        int blanks = 0;
        while (blanks < rest.length() && " \n".indexOf(rest.charAt(blanks)) >= 0) {
            blanks++;
        }
        place = at + blanks;
        if (blanks == rest.length()) {
            return "";
        }
        Matcher m = TOKEN.matcher(text).region(at, text.length());
        if (!m.lookingAt() || m.group(2) != null && m.group(2).length() > 4) {
            throw fault(1);
        }
        return m.group().substring(blanks);
    }

    private String next() {
        token = peek();
        at = place + token.length();
        return token;
    }

    private void want(String wanted) {
        if (!next().equals(wanted)) {
            throw fault(2);
        }
    }

    private int number(int least, int most) {
        if (!next().matches("[0-9]+")) {
            throw fault(2);
        }
        int n = Integer.parseInt(token);
        if (n < least || n > most) {
            throw fault(4);
        }
        return n;
    }

    private String name() {
        if (!next().matches("[a-z]{1,8}") || WORDS.contains(token)) {
            throw fault(2);
        }
        return token;
    }

    private static int find(List<String> names, String kind, String name) {
        int n = 0;
        for (String known : names) {
            if (known.equals(kind + " " + name)) {
                return n;
            }
            n += known.startsWith(kind + " ") ? 1 : 0;
        }
        return -1;
    }

    private int known(List<String> names, String kind) {
        int n = find(names, kind, name());
        if (n < 0) {
            throw fault(3);
        }
        return n;
    }

    Model.World state() {
        Model.World w = new Model.World();
        boolean odds = false;
        boolean greys = false;
        while (!next().isEmpty()) {
            switch (token) {
                case "odds" -> {
                    if (odds) {
                        throw fault(5);
                    }
                    odds = true;
                    w.odds = number(0, 16);
                    want(";");
                }
                case "greys" -> {
                    if (greys) {
                        throw fault(5);
                    }
                    greys = true;
                    w.greys = number(1, 99);
                    want(";");
                }
                case "hair", "party", "ruler", "look", "barber" -> thing(w, token);
                case "pair" -> {
                    atMost(w.pairs, 10);
                    int first = known(w.names, "barber");
                    int second = known(w.names, "barber");
                    if (first == second) {
                        throw fault(5);
                    }
                    w.pairs.add(new int[] {first, second});
                    want(";");
                }
                default -> throw fault(2);
            }
        }
        return w;
    }

    private void atMost(List<?> there, int most) {
        if (there.size() == most) {
            throw fault(6);
        }
    }

    private void newName(Model.World w, String kind, List<?> there, int most) {
        atMost(there, most);
        String name = name();
        for (String known : w.names) {
            if (known.endsWith(" " + name)) {
                throw fault(3);
            }
        }
        w.names.add(kind + " " + name);
    }

    private void thing(Model.World w, String kind) {
        switch (kind) {
            case "hair" -> hair(w);
            case "party" -> {
                newName(w, kind, w.parties, 5);
                want("seats");
                int seats = number(1, 99);
                want("wants");
                w.parties.add(new int[] {seats, number(0, 99)});
                want(";");
            }
            case "ruler" -> {
                newName(w, kind, w.lips, 6);
                want("lip");
                w.lips.add(number(0, 9));
                want(";");
            }
            case "barber" -> {
                newName(w, kind, w.barbers, 6);
                w.barbers.add(token);
                want(";");
            }
            default -> look(w);
        }
    }

    private void hair(Model.World w) {
        newName(w, "hair", w.hairs, 8);
        Model.Hair h = new Model.Hair();
        want("length");
        h.length = number(0, 99);
        h.grows = 1;
        h.stands = 1;
        next();
        if (token.equals("grows")) {
            h.grows = number(0, 9);
            next();
        }
        if (token.equals("up") || token.equals("down")) {
            h.stands = token.equals("up") ? 2 : 0;
            next();
        }
        if (!token.equals(";")) {
            throw fault(2);
        }
        w.hairs.add(h);
    }

    private void look(Model.World w) {
        newName(w, "look", w.looks, 6);
        List<Integer> sets = new ArrayList<>();
        while (!next().equals(";")) {
            int how = Arrays.asList("down", "flat", "up", "either").indexOf(token);
            if (how < 0) {
                throw fault(2);
            }
            if (sets.size() == w.hairs.size()) {
                throw fault(6);
            }
            sets.add(how);
        }
        w.looks.add(sets);
    }

    List<Step> reigns(List<String> names) {
        List<Step> row = row(names, 0);
        if (!token.isEmpty()) {
            throw fault(2);
        }
        return row;
    }

    /** Up to an end or the end of the text, which is the token then. */
    private List<Step> row(List<String> names, int depth) {
        List<Step> row = new ArrayList<>();
        while (!next().isEmpty() && !token.equals("end")) {
            if (!Arrays.asList("day", "peace", "war", "wax", "trim", "vote", "hand", "any", "when", "loop", "stop").contains(token)) {
                throw fault(2);
            }
            if (++steps > 30) {
                throw fault(6);
            }
            row.add(step(names, depth));
        }
        return row;
    }

    private Step step(List<String> names, int depth) {
        Step step = new Step();
        step.word = token;
        boolean opens = token.equals("when") || token.equals("loop");
        if (opens && depth == 3) {
            throw fault(7);
        }
        switch (token) {
            case "day" -> step.number = number(1, 20);
            case "loop" -> step.number = number(1, 99);
            case "wax", "trim", "vote" -> {
                step.thing = known(names, "hair");
                step.number = number(0, 99);
            }
            case "when" -> test(names, step);
            default -> { }
        }
        want(";");
        if (opens) {
            step.inner = row(names, depth + 1);
            if (token.isEmpty()) {
                throw fault(2);
            }
            want(";");
        }
        return step;
    }

    private void test(List<String> names, Step step) {
        step.test = next();
        switch (step.test) {
            case "peace" -> { }
            case "shows" -> step.thing = known(names, "look");
            case "length" -> {
                step.thing = known(names, "hair");
                step.test = next();
                if (!step.test.matches("[<>=]")) {
                    throw fault(2);
                }
                step.number = number(0, 99);
            }
            default -> throw fault(2);
        }
    }
}
