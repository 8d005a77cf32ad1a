import java.util.List;

/** REIGNS of the model, lived STEP by STEP down the tree of them. */
final class ModelLife {
    private final Model.World world;
    private long s;
    int steps;
    int missed;
    int days;
    int trimmed;
    int passed;
    boolean left;
    private boolean over;

    ModelLife(Model.World world, int seed) {
        this.world = world;
        this.s = seed;
    }

    void live() {
        all(world.reigns);
    }

    private int draw(int by) {
        s = (s * 2971 + 10837) % 65536;
        return (int) (s / 8 % by);
    }

    private void all(List<ModelTexts.Step> row) {
        for (ModelTexts.Step step : row) {
            if (over) {
                return;
            }
            if (steps == 300) {
                left = true;
                over = true;
                return;
            }
            steps++;
            one(step);
        }
    }

    private void one(ModelTexts.Step step) {
        switch (step.word) {
            case "loop" -> {
                for (int i = 0; i < step.number && !over; i++) {
                    all(step.inner);
                }
            }
            case "when" -> {
                if (holds(step)) {
                    all(step.inner);
                }
            }
            case "stop" -> over = true;
            default -> missed += done(step) ? 0 : 1;
        }
    }

    private boolean holds(ModelTexts.Step step) {
        switch (step.test) {
            case "shows":
                return world.shows(step.thing);
            case "<":
                return world.hairs.get(step.thing).length < step.number;
            case ">":
                return world.hairs.get(step.thing).length > step.number;
            case "=":
                return world.hairs.get(step.thing).length == step.number;
            default:
                return world.peace;
        }
    }

    private boolean done(ModelTexts.Step step) {
        switch (step.word) {
            case "day":
                if (world.day + step.number > 9999) {
                    return false;
                }
                for (int i = 0; i < step.number; i++) {
                    world.dayGoesBy();
                    days++;
                }
                return true;
            case "peace":
            case "war":
                boolean is = step.word.equals("peace");
                if (world.peace == is) {
                    return false;
                }
                world.peace = is;
                return true;
            case "wax":
                world.hairs.get(step.thing).wax = step.number;
                return true;
            case "hand":
                if (world.ruling + 1 >= world.lips.size()) {
                    return false;
                }
                world.ruling++;
                return true;
            case "any":
                if (world.hairs.isEmpty()) {
                    return false;
                }
                int hair = draw(world.hairs.size());
                world.hairs.get(hair).stands = draw(3);
                return true;
            default:
                return cut(step);
        }
    }

    private boolean cut(ModelTexts.Step step) {
        Model.Hair h = world.hairs.get(step.thing);
        boolean byVote = step.word.equals("vote");
        if (step.number >= h.length || byVote && world.balance(step.thing, step.number) <= 0) {
            return false;
        }
        trimmed += h.length - step.number;
        h.length = step.number;
        passed += byVote ? 1 : 0;
        return true;
    }
}
