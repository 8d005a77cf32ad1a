import java.util.ArrayList;
import java.util.List;
import java.util.Random;

/** STATES and REIGNS by chance, sound or broken. */
final class RandomTexts {
    private static final String[] PIECES = {"odds", "greys", "hair", "length", "grows", "up", "flat", "down", "either", "party", "seats",
        "wants", "ruler", "lip", "look", "barber", "pair", "day", "peace", "war", "wax", "trim", "vote", "hand", "any", "when", "shows",
        "loop", "end", "stop", ";", "<", ">", "=", "0", "1", "7", "16", "17", "99", "100", "9999", "12345", "a", "b", "abcdefgh",
        "abcdefghi", "!", "A", "\u00e9", "\n", ";;"};

    private final Random random;
    private final List<String> hairs = new ArrayList<>();
    private final List<String> looks = new ArrayList<>();
    private int names;

    RandomTexts(Random random) {
        this.random = random;
    }

    private String newName() {
        StringBuilder b = new StringBuilder();
        int n = names++;
        do {
            b.append((char) ('a' + n % 26));
            n /= 26;
        } while (n > 0);
        while (random.nextInt(9) == 0 && b.length() < 7) {
            b.append('q');
        }
        return b.append('z').toString();
    }

    private String blank() {
        int dice = random.nextInt(12);
        return dice == 0 ? "\n" : dice == 1 ? "  " : " ";
    }

    String state() {
        hairs.clear();
        looks.clear();
        // NAMES of an earlier STATE come again, often of other things.
        names = random.nextInt(4) * 20;
        StringBuilder b = new StringBuilder();
        if (random.nextBoolean()) {
            b.append("odds").append(blank()).append(random.nextInt(17)).append(";");
        }
        if (random.nextBoolean()) {
            b.append("greys ").append(1 + random.nextInt(random.nextBoolean() ? 99 : 4)).append(" ;");
        }
        int most = random.nextInt(9);
        List<String> barbers = new ArrayList<>();
        int[] made = new int[4];
        for (int i = 0; i < 30 && b.length() < 820; i++) {
            part(b, most, barbers, made);
        }
        return b.toString();
    }

    private void part(StringBuilder b, int most, List<String> barbers, int[] made) {
        String name = newName();
        switch (random.nextInt(7)) {
            case 0:
            case 1:
                if (hairs.size() < most) {
                    hairs.add(name);
                    b.append("hair ").append(name).append(" length ").append(random.nextInt(random.nextBoolean() ? 100 : 12));
                    b.append(random.nextBoolean() ? " grows " + random.nextInt(10) : "");
                    b.append(new String[] {"", " up", " down"}[random.nextInt(3)]).append(";");
                }
                break;
            case 2:
                if (made[0]++ < 5) {
                    b.append("party ").append(name).append(" seats ").append(1 + random.nextInt(99));
                    b.append(" wants ").append(random.nextInt(100)).append(";");
                }
                break;
            case 3:
                if (made[1]++ < 6) {
                    b.append("ruler ").append(name).append(blank()).append("lip ").append(random.nextInt(random.nextBoolean() ? 10 : 2)).append(";");
                }
                break;
            case 4:
                if (looks.size() < 6) {
                    looks.add(name);
                    b.append("look ").append(name);
                    int sets = random.nextInt(hairs.size() + 1);
                    for (int i = 0; i < sets; i++) {
                        b.append(blank()).append(new String[] {"up", "flat", "down", "either"}[random.nextInt(4)]);
                    }
                    b.append(";");
                }
                break;
            case 5:
                if (barbers.size() < 6) {
                    barbers.add(name);
                    b.append("barber ").append(name).append(";");
                }
                break;
            default:
                for (int i = 0; i < 2; i++) {
                    int one = barbers.size() < 2 ? 0 : random.nextInt(barbers.size());
                    int other = barbers.size() < 2 ? 0 : random.nextInt(barbers.size());
                    if (one != other && made[3]++ < 10) {
                        b.append("pair ").append(barbers.get(one)).append(blank()).append(barbers.get(other)).append(";");
                    }
                }
                break;
        }
    }

    String reigns() {
        StringBuilder b = new StringBuilder();
        int open = 0;
        for (int i = 0; i < 30 && b.length() < 250; i++) {
            int dice = random.nextInt(10);
            if (dice == 0 && open > 0) {
                b.append("end;");
                open--;
            } else if (dice <= 3 && open < 3) {
                b.append(random.nextBoolean() ? "loop " + (1 + random.nextInt(random.nextBoolean() ? 99 : 5)) : "when " + test()).append(blank()).append(";");
                open++;
            } else {
                b.append(leaf()).append(";");
            }
        }
        for (int i = 0; i < open; i++) {
            b.append("end;");
        }
        return b.toString();
    }

    private String any(List<String> of) {
        return of.get(random.nextInt(of.size()));
    }

    private String test() {
        int dice = random.nextInt(3);
        if (dice == 0 && !looks.isEmpty()) {
            return "shows " + any(looks);
        }
        if (dice == 1 && !hairs.isEmpty()) {
            return "length " + any(hairs) + new String[] {"<", "> ", " = "}[random.nextInt(3)] + random.nextInt(100);
        }
        return "peace";
    }

    private String leaf() {
        int dice = random.nextInt(hairs.isEmpty() ? 9 : 14);
        switch (dice) {
            case 0:
            case 1:
            case 2:
                return "day " + (1 + random.nextInt(random.nextBoolean() ? 20 : 3));
            case 3:
                return "peace";
            case 4:
                return "war";
            case 5:
                return "hand";
            case 6:
            case 7:
                return "any";
            case 8:
                return random.nextInt(5) == 0 ? "stop" : "any";
            case 9:
            case 10:
                return "wax " + any(hairs) + blank() + random.nextInt(random.nextBoolean() ? 100 : 5);
            case 11:
                return "trim " + any(hairs) + blank() + random.nextInt(100);
            default:
                return "vote " + any(hairs) + blank() + random.nextInt(100);
        }
    }

    String brokenState() {
        return broken(random.nextInt(3) == 0 ? state() + state() : state(), 900);
    }

    String brokenReigns() {
        return broken(random.nextInt(3) == 0 ? reigns() + reigns() : reigns(), 300);
    }

    /** A piece is put in, taken out or put in another's place, or nothing happens. */
    private String broken(String sound, int most) {
        StringBuilder b = new StringBuilder(sound);
        int times = random.nextInt(3);
        for (int i = 0; i < times; i++) {
            int from = random.nextInt(b.length() + 1);
            int to = random.nextInt(3) == 0 ? from : Math.min(b.length(), from + random.nextInt(6));
            b.replace(from, to, random.nextInt(4) == 0 ? "" : " " + PIECES[random.nextInt(PIECES.length)] + (random.nextBoolean() ? " " : ""));
        }
        b.setLength(Math.min(b.length(), random.nextInt(6) == 0 ? random.nextInt(b.length() + 1) : most));
        return b.toString();
    }
}
