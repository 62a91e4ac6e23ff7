import java.nio.charset.StandardCharsets;
import java.util.ArrayList;
import java.util.List;
import java.util.Random;

/** Runs of random calls on random skylines, each answer against that of the model. */
public final class ModelTest {
    private static final int RUNS = 6000;
    private static final String[] CALLS = {
        "errorAt", "towers", "pigeons", "day", "ordersCarriedOut", "trapped", "wetTowers", "widestPool", "highest",
        "seenFromLeft", "seenFromRight", "quietest", "bestToBuild", "meanHeight", "digest", "passDays", "trappedAfter",
        "trim", "heightOf", "isSeenFromLeft", "nextTallerLeft", "nextTallerRight", "waterOn", "pigeonsOn", "heardOn",
        "placeOf", "loudnessOf", "hears", "noiseAt", "hop", "glide", "build", "wear", "daysUntilHeard", "trappedWith",
        "quietestTower", "hop", "glide", "build", "wear", "passDays", "passDays", "trappedWith", "hears", "digest",
    };
    private static final String[] WORDS = {
        "roofs", "pigeon", "at", "loud", "hop", "glide", "build", "wear", "left", "right", "when", "day", "rain", "seen",
        "towers", "height", "noise", "place", "of", "hears", "dry", "over", "not", "and", "or", "min", "max", "(", ")",
        "[", "]", ";", ",", "+", "-", "*", "/", "<", ">", "=", "<=", ">=", "p0", "p1", "q", "0", "1", "20", "999999",
    };

    private final Random random;
    private final RoofPigeons program = new RoofPigeons();
    private final Model model = new Model();
    private final int run;
    private List<String> words = new ArrayList<>();
    private int pigeonCount;

    private ModelTest(int run) {
        this.run = run;
        random = new Random(run);
    }

    public static void main(String[] args) {
        int taught = 0;
        int[] errors = new int[6];
        for (int run = 0; run < RUNS; run++) {
            ModelTest test = new ModelTest(run);
            for (int tapes = 0; tapes < 3; tapes++) {
                errors[test.teach()]++;
                test.callAtRandom(30);
            }
        }
        for (int error = 0; error < errors.length; error++) {
            System.out.println("skylines with error " + error + ": " + errors[error]);
            Checks.due("whether there were skylines with error " + error, errors[error] > 20, true);
        }
        Checks.end();
    }

    private boolean chance(int percent) {
        return random.nextInt(100) < percent;
    }

    private int below(int bound) {
        return random.nextInt(bound);
    }

    private String one(String... of) {
        return of[below(of.length)];
    }

    // ---- skylines

    private int teach() {
        words = new ArrayList<>();
        addSkyline();
        if (chance(25)) {
            spoilWords();
        }
        String text = joined();
        if (chance(10)) {
            text = spoilBytes(text);
        }
        if (text.length() > 2000) {
            text = text.substring(0, 2000);
        }
        byte[] bytes = text.getBytes(StandardCharsets.ISO_8859_1);
        int tapeLength = (bytes.length + 19) / 20 * 20;
        for (int from = 0; from < tapeLength; from += 20) {
            int[] numbers = new int[5];
            for (int k = 0; k < 20; k++) {
                int b = from + k < bytes.length ? bytes[from + k] & 255 : below(256);
                numbers[k / 4] = numbers[k / 4] << 8 | b;
            }
            Checks.due("run " + run + ": feed()",
                    program.feed(numbers[0], numbers[1], numbers[2], numbers[3], numbers[4]), model.feed(numbers));
        }
        dueSame("trim", bytes.length, 0);
        int want = model.teach();
        Checks.due("run " + run + ": teach() of \"" + text + "\"", program.teach(), want);
        Checks.due("run " + run + ": errorAt() behind \"" + text + "\"", program.errorAt(), model.errorAt());
        return want;
    }

    private void add(String... more) {
        words.addAll(List.of(more));
    }

    private void addSkyline() {
        add("roofs");
        int towers = chance(3) ? 17 + below(2) : 1 + below(16);
        int top = chance(50) ? 20 : 3;
        for (int t = 0; t < towers; t++) {
            add("" + (chance(1) ? 21 + below(900) : below(top + 1)));
        }
        add(";");
        pigeonCount = 0;
        int lines = below(14);
        int most = chance(3) ? 9 : 8;
        for (int line = 0; line < lines || pigeonCount < most && chance(60); line++) {
            if (pigeonCount < most && chance(50)) {
                String name = chance(1) && pigeonCount > 0 ? "p" + below(pigeonCount) : "p" + pigeonCount;
                int place = chance(1) ? towers + below(3) : below(towers);
                add("pigeon", name, "at", "" + place, "loud", "" + (chance(1) ? 10 * below(2) : 1 + below(9)), ";");
                pigeonCount++;
            } else {
                addOrder();
            }
        }
        if (chance(4)) {
            for (int k = 0; k < 17; k++) {
                add("wear", "" + k, ";");
            }
        }
    }

    private String name() {
        return chance(1) || pigeonCount == 0 ? "q" : "p" + below(pigeonCount);
    }

    private void addOrder() {
        if (chance(50) && pigeonCount > 0) {
            add(one("hop", "glide"), name(), one("left", "right"));
        } else {
            add(one("build", "wear"));
            addSum(0);
        }
        if (chance(60)) {
            add("when");
            addTest(0);
        }
        add(";");
    }

    private void addTest(int depth) {
        addSingle(depth);
        while (chance(25)) {
            add(one("and", "or"));
            addSingle(depth);
        }
    }

    private void addSingle(int depth) {
        boolean isDeep = depth > 8;
        if (pigeonCount > 0 && chance(30)) {
            add(one("hears", "over"), name(), name());
            return;
        }
        switch (below(isDeep ? 4 : 8)) {
            case 0:
            case 1:
            case 2:
                add("rain", one("<", ">", "=", "<=", ">="), "" + below(30));
                break;
            case 3:
                add("dry");
                addSum(depth);
                break;
            case 4:
                add("not");
                addSingle(depth + 1);
                break;
            case 5:
                add("[");
                addTest(depth + 1);
                add("]");
                break;
            default:
                addSum(depth);
                add(one("<", ">", "=", "<=", ">="));
                addSum(depth);
                break;
        }
    }

    private void addSum(int depth) {
        addValue(depth);
        while (chance(25)) {
            add(one("+", "-", "*", "/"));
            addValue(depth);
        }
    }

    private void addValue(int depth) {
        boolean isDeep = depth > 8 || chance(40);
        if (pigeonCount > 0 && chance(20)) {
            add(one("noise", "place"), "of", name());
            return;
        }
        switch (below(isDeep ? 4 : 8)) {
            case 0:
            case 1:
                add("" + (chance(10) ? below(1000000) : below(20)));
                break;
            case 2:
            case 3:
                add(one("day", "day", "rain", "seen", "towers"));
                break;
            case 4:
                add("height", "(");
                addSum(depth + 1);
                add(")");
                break;
            case 5:
                add("-");
                addValue(depth + 1);
                break;
            case 6:
                add("(");
                addSum(depth + 1);
                add(")");
                break;
            default:
                add(one("min", "max"), "(");
                addSum(depth + 1);
                add(",");
                addSum(depth + 1);
                add(")");
                break;
        }
    }

    private void spoilWords() {
        for (int times = 1 + below(2); times > 0; times--) {
            int at = below(words.size());
            switch (below(4)) {
                case 0:
                    words.remove(at);
                    break;
                case 1:
                    words.add(at, one(WORDS));
                    break;
                case 2:
                    words.set(at, one(WORDS));
                    break;
                default:
                    words = new ArrayList<>(words.subList(0, at));
                    break;
            }
            if (words.isEmpty()) {
                return;
            }
        }
    }

    private String joined() {
        StringBuilder text = new StringBuilder();
        boolean isTight = chance(50);
        for (String word : words) {
            boolean isNeeded = text.length() > 0 && Character.isLetterOrDigit(text.charAt(text.length() - 1))
                    && Character.isLetterOrDigit(word.charAt(0));
            if (isNeeded || !isTight || chance(10)) {
                text.append(chance(10) ? "\n" : chance(10) ? "  " : " ");
            }
            text.append(word);
        }
        return text.toString();
    }

    private String spoilBytes(String text) {
        StringBuilder spoiled = new StringBuilder(text);
        if (spoiled.length() > 0) {
            int at = below(spoiled.length());
            switch (below(4)) {
                case 0:
                    spoiled.setCharAt(at, (char) below(256));
                    break;
                case 1:
                    spoiled.insert(at, one("abcdefghijk", "abcdefghij", "1234567", "123456", "<", "=", "!", "\t"));
                    break;
                case 2:
                    spoiled.deleteCharAt(at);
                    break;
                default:
                    spoiled.append(one(" ", "\n", "x", "\u0000", ";"));
                    break;
            }
        }
        return spoiled.toString();
    }

    // ---- calls

    private void callAtRandom(int calls) {
        for (int k = 0; k < calls; k++) {
            dueSame(one(CALLS), argument(), argument());
        }
    }

    private int argument() {
        if (chance(2)) {
            return random.nextInt();
        }
        return chance(50) ? below(5) : below(34) - 1;
    }

    private interface Call {
        Object run();
    }

    private void dueSame(String name, int a, int b) {
        String call = "run " + run + ": " + name + "(" + a + ", " + b + ")";
        Checks.due(call, answer(() -> callProgram(name, a, b)), answer(() -> model.call(name, a, b)));
    }

    private static Object answer(Call call) {
        try {
            return call.run();
        } catch (RuntimeException e) {
            return e.getClass().getName();
        }
    }

    private Object callProgram(String name, int a, int b) {
        return switch (name) {
            case "errorAt" -> program.errorAt();
            case "towers" -> program.towers();
            case "pigeons" -> program.pigeons();
            case "day" -> program.day();
            case "ordersCarriedOut" -> program.ordersCarriedOut();
            case "trapped" -> program.trapped();
            case "wetTowers" -> program.wetTowers();
            case "widestPool" -> program.widestPool();
            case "highest" -> program.highest();
            case "seenFromLeft" -> program.seenFromLeft();
            case "seenFromRight" -> program.seenFromRight();
            case "quietest" -> program.quietest();
            case "bestToBuild" -> program.bestToBuild();
            case "meanHeight" -> program.meanHeight();
            case "digest" -> program.digest();
            case "passDays" -> program.passDays(a);
            case "trappedAfter" -> program.trappedAfter(a);
            case "trim" -> program.trim(a);
            default -> callOfTowerOrPigeon(name, a, b);
        };
    }

    private Object callOfTowerOrPigeon(String name, int a, int b) {
        return switch (name) {
            case "heightOf" -> program.heightOf(a);
            case "isSeenFromLeft" -> program.isSeenFromLeft(a);
            case "nextTallerLeft" -> program.nextTallerLeft(a);
            case "nextTallerRight" -> program.nextTallerRight(a);
            case "waterOn" -> program.waterOn(a);
            case "pigeonsOn" -> program.pigeonsOn(a);
            case "heardOn" -> program.heardOn(a);
            case "placeOf" -> program.placeOf(a);
            case "loudnessOf" -> program.loudnessOf(a);
            case "hears" -> program.hears(a, b);
            case "noiseAt" -> program.noiseAt(a);
            case "hop" -> program.hop(a, b > 0);
            case "glide" -> program.glide(a, b > 0);
            case "build" -> program.build(a);
            case "wear" -> program.wear(a);
            case "daysUntilHeard" -> program.daysUntilHeard(a, b);
            case "trappedWith" -> program.trappedWith(a, b);
            case "quietestTower" -> program.quietestTower(a);
            default -> throw new AssertionError(name);
        };
    }
}
