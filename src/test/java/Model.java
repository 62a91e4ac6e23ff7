import java.nio.charset.StandardCharsets;
import java.util.ArrayDeque;
import java.util.ArrayList;
import java.util.Arrays;
import java.util.Deque;
import java.util.HashMap;
import java.util.HashSet;
import java.util.LinkedHashMap;
import java.util.List;
import java.util.Map;
import java.util.Set;
import java.util.function.Predicate;
import java.util.function.ToIntFunction;
import java.util.regex.Matcher;
import java.util.regex.Pattern;

/**
 * A second reading of the document, for the tests: the grammar is a table that is walked with sets of
 * stacks, sums and tests are trees of functions, and every answer is reckoned anew from its definition.
 */
final class Model {
    private static final Set<String> KEYWORDS = Set.of("roofs", "pigeon", "at", "loud", "hop", "glide", "build", "wear",
            "left", "right", "when", "day", "rain", "seen", "towers", "height", "noise", "place", "of", "hears", "dry",
            "over", "not", "and", "or", "min", "max");
    private static final Pattern TOKEN = Pattern.compile("[a-z][a-z0-9]*|[0-9]+|<=|>=|[()\\[\\];,+\\-*/<>=]");
    private static final Map<String, List<String[]>> RULES = rules();

    private record Token(String kind, String text, int place) {
    }

    private record Stack(String top, Stack rest) {
    }

    private static final class Bird {
        final String name;
        final int loudness;
        int place;

        Bird(String name, int place, int loudness) {
            this.name = name;
            this.place = place;
            this.loudness = loudness;
        }
    }

    private record Order(String verb, String name, String side, ToIntFunction<State> sum, Predicate<State> test) {
    }

    /** What a day changes. */
    private static final class State {
        int[] heights = {0};
        List<Bird> birds = new ArrayList<>();
        int day;
        int carriedOut;

        State copy() {
            State other = new State();
            other.heights = heights.clone();
            for (Bird bird : birds) {
                other.birds.add(new Bird(bird.name, bird.place, bird.loudness));
            }
            other.day = day;
            other.carriedOut = carriedOut;
            return other;
        }

        int towerBy(int number) {
            long rest = (long) number % heights.length;
            return (int) (rest < 0 ? rest + heights.length : rest);
        }

        Bird named(String name) {
            for (Bird bird : birds) {
                if (bird.name.equals(name)) {
                    return bird;
                }
            }
            throw new AssertionError(name);
        }

        boolean isSeen(int tower, int step) {
            for (int t = tower + step; t >= 0 && t < heights.length; t += step) {
                if (heights[t] >= heights[tower]) {
                    return false;
                }
            }
            return true;
        }

        int countSeen(int step) {
            int count = 0;
            for (int t = 0; t < heights.length; t++) {
                count += isSeen(t, step) ? 1 : 0;
            }
            return count;
        }

        int nextTaller(int tower, int step) {
            for (int t = tower + step; t >= 0 && t < heights.length; t += step) {
                if (heights[t] > heights[tower]) {
                    return t;
                }
            }
            return -1;
        }

        int water(int tower) {
            if (tower == 0 || tower == heights.length - 1) {
                return 0;
            }
            int left = Arrays.stream(heights, 0, tower).max().getAsInt();
            int right = Arrays.stream(heights, tower + 1, heights.length).max().getAsInt();
            return Math.max(0, Math.min(left, right) - heights[tower]);
        }

        int trapped() {
            int sum = 0;
            for (int t = 0; t < heights.length; t++) {
                sum += water(t);
            }
            return sum;
        }

        boolean isHeard(Bird bird, int tower) {
            int t = bird.place;
            int step = Integer.compare(tower, t);
            while (t != tower) {
                if (heights[t] > heights[bird.place]) {
                    return false;
                }
                t += step;
            }
            return true;
        }

        int noise(Bird bird, int tower) {
            int sum = 0;
            for (Bird other : birds) {
                if (other != bird && isHeard(other, tower)) {
                    sum += other.loudness;
                }
            }
            return sum;
        }

        boolean hop(Bird bird, int step) {
            int target = nextTaller(bird.place, step);
            if (target >= 0) {
                bird.place = target;
            }
            return target >= 0;
        }

        boolean glide(Bird bird, int step) {
            int target = bird.place + step;
            boolean can = target >= 0 && target < heights.length && heights[target] < heights[bird.place];
            if (can) {
                bird.place = target;
            }
            return can;
        }

        boolean raise(int tower, int by) {
            int height = Math.max(0, Math.min(20, heights[tower] + by));
            boolean can = height != heights[tower];
            heights[tower] = height;
            return can;
        }

        int passDay(List<Order> orders) {
            int done = 0;
            for (Order order : orders) {
                if (!order.test.test(this)) {
                    continue;
                }
                int step = "right".equals(order.side) ? 1 : -1;
                boolean isDone = switch (order.verb) {
                    case "hop" -> hop(named(order.name), step);
                    case "glide" -> glide(named(order.name), step);
                    case "build" -> raise(towerBy(order.sum.applyAsInt(this)), 1);
                    default -> raise(towerBy(order.sum.applyAsInt(this)), -1);
                };
                done += isDone ? 1 : 0;
            }
            for (Bird bird : birds) {
                int from = bird.place;
                int best = -1;
                for (int t = 0; t < heights.length; t++) {
                    if (water(t) == 0 && (best < 0 || Math.abs(t - from) < Math.abs(best - from))) {
                        best = t;
                    }
                }
                bird.place = water(from) > 0 ? best : from;
            }
            day++;
            carriedOut += done;
            return done;
        }
    }

    private String tape = "";
    private int errorAt = -1;
    private State state = new State();
    private List<Order> orders = new ArrayList<>();

    private List<Token> tokens;
    private int at;

    // ---- the language

    int feed(int... numbers) {
        if (tape.length() + 20 > 2000) {
            throw new IllegalStateException();
        }
        byte[] bytes = new byte[20];
        for (int k = 0; k < 20; k++) {
            bytes[k] = (byte) (numbers[k / 4] >>> 24 - 8 * (k % 4));
        }
        tape += new String(bytes, StandardCharsets.ISO_8859_1);
        return tape.length();
    }

    int trim(int n) {
        if (n < 0 || n > tape.length()) {
            throw new IllegalArgumentException();
        }
        tape = tape.substring(0, n);
        return n;
    }

    int teach() {
        String text = tape;
        tape = "";
        tokens = split(text);
        errorAt = placeOfErrorOne();
        if (errorAt >= 0) {
            return 1;
        }
        int error = otherError();
        if (error == 0) {
            at = 0;
            build();
        }
        return error;
    }

    int errorAt() {
        return errorAt;
    }

    /** The tokens of a text; the last one is its end, or what is no token. */
    private static List<Token> split(String text) {
        List<Token> found = new ArrayList<>();
        int place = 0;
        while (true) {
            while (place < text.length() && (text.charAt(place) == ' ' || text.charAt(place) == '\n')) {
                place++;
            }
            if (place == text.length()) {
                found.add(new Token("end", "", place));
                return found;
            }
            Matcher matcher = TOKEN.matcher(text).region(place, text.length());
            if (found.size() == 400 || !matcher.lookingAt()) {
                found.add(new Token("none", "", place));
                return found;
            }
            String token = matcher.group();
            boolean isWord = Character.isLetter(token.charAt(0));
            boolean isNumber = Character.isDigit(token.charAt(0));
            if (isWord && token.length() > 10 || isNumber && token.length() > 6) {
                found.add(new Token("none", "", place));
                return found;
            }
            String kind = isNumber ? "NUMBER" : isWord && !KEYWORDS.contains(token) ? "NAME" : token;
            found.add(new Token(kind, token, place));
            place += token.length();
        }
    }

    private static void rule(Map<String, List<String[]>> rules, String left, String... rights) {
        List<String[]> all = new ArrayList<>();
        for (String right : rights) {
            all.add(right.isEmpty() ? new String[0] : right.split(" "));
        }
        rules.put(left, all);
    }

    /** The grammar, with the depth in the names; what is at depth 8 has no way deeper. */
    private static Map<String, List<String[]>> rules() {
        Map<String, List<String[]>> rules = new HashMap<>();
        rule(rules, "$skyline", "roofs NUMBER $numbers ; $lines");
        rule(rules, "$numbers", "", "NUMBER $numbers");
        rule(rules, "$lines", "", "$line ; $lines");
        rule(rules, "$line", "pigeon NAME at NUMBER loud NUMBER", "$order $when");
        rule(rules, "$when", "", "when $test0");
        rule(rules, "$order", "hop NAME $side", "glide NAME $side", "build $sum0", "wear $sum0");
        rule(rules, "$side", "left", "right");
        rule(rules, "$compare", "<", ">", "=", "<=", ">=");
        for (int d = 0; d <= 8; d++) {
            // at depth 9 nothing fits, whatever token stands there
            String deep = d < 8 ? "" + (d + 1) : "";
            String open = d < 8 ? "(" : "nothing";
            rule(rules, "$test" + d, "$both" + d + " $moreboth" + d);
            rule(rules, "$moreboth" + d, "", "or $both" + d + " $moreboth" + d);
            rule(rules, "$both" + d, "$single" + d + " $moresingle" + d);
            rule(rules, "$moresingle" + d, "", "and $single" + d + " $moresingle" + d);
            rule(rules, "$single" + d, d < 8 ? "not $single" + deep : "nothing", d < 8 ? "[ $test" + deep + " ]" : "nothing",
                    "hears NAME NAME", "over NAME NAME", "dry $sum" + d, "$sum" + d + " $compare $sum" + d);
            rule(rules, "$sum" + d, "$product" + d + " $moreproduct" + d);
            rule(rules, "$moreproduct" + d, "", "+ $product" + d + " $moreproduct" + d, "- $product" + d + " $moreproduct" + d);
            rule(rules, "$product" + d, "$value" + d + " $morevalue" + d);
            rule(rules, "$morevalue" + d, "", "* $value" + d + " $morevalue" + d, "/ $value" + d + " $morevalue" + d);
            rule(rules, "$value" + d, "NUMBER", "day", "rain", "seen", "towers", "noise of NAME", "place of NAME",
                    "height " + open + " $sum" + deep + " )", d < 8 ? "- $value" + deep : "nothing",
                    open + " $sum" + deep + " )", "min " + open + " $sum" + deep + " , $sum" + deep + " )",
                    "max " + open + " $sum" + deep + " , $sum" + deep + " )");
        }
        return rules;
    }

    /** The stacks on whose tops only tokens stand, or which are empty. */
    private static Set<Stack> opened(Set<Stack> stacks) {
        Set<Stack> seen = new HashSet<>();
        Set<Stack> open = new HashSet<>();
        Deque<Stack> todo = new ArrayDeque<>(stacks);
        while (!todo.isEmpty()) {
            Stack stack = todo.pop();
            if (!seen.add(stack)) {
                continue;
            }
            if (!stack.top.startsWith("$") || stack.top.equals("$$")) {
                open.add(stack);
                continue;
            }
            for (String[] right : RULES.get(stack.top)) {
                Stack next = stack.rest;
                for (int k = right.length - 1; k >= 0; k--) {
                    next = new Stack(right[k], next);
                }
                todo.push(next);
            }
        }
        return open;
    }

    private int placeOfErrorOne() {
        Set<Stack> stacks = opened(Set.of(new Stack("$skyline", new Stack("$$", null))));
        for (Token token : tokens) {
            if (token.kind.equals("end")) {
                return stacks.contains(new Stack("$$", null)) ? -1 : token.place;
            }
            Set<Stack> next = new HashSet<>();
            for (Stack stack : stacks) {
                if (stack.top.equals(token.kind)) {
                    next.add(stack.rest);
                }
            }
            if (next.isEmpty()) {
                return token.place;
            }
            stacks = opened(next);
        }
        throw new AssertionError();
    }

    /** Looks at keywords, names and numbers from left to right. */
    private int otherError() {
        Set<String> names = new HashSet<>();
        int roofs = 0;
        int orderCount = 0;
        boolean inRoofs = true;
        for (int k = 0; k < tokens.size(); k++) {
            Token token = tokens.get(k);
            String ahead = k == 0 ? "" : tokens.get(k - 1).kind;
            int error = 0;
            if (token.kind.equals(";")) {
                inRoofs = false;
            } else if (Set.of("hop", "glide", "build", "wear").contains(token.kind)) {
                orderCount++;
                error = orderCount > 16 ? 4 : 0;
            } else if (token.kind.equals("NUMBER")) {
                int number = Integer.parseInt(token.text);
                if (inRoofs) {
                    roofs++;
                    error = roofs > 16 ? 4 : number > 20 ? 5 : 0;
                } else if (ahead.equals("at")) {
                    error = number >= roofs ? 5 : 0;
                } else if (ahead.equals("loud")) {
                    error = number < 1 || number > 9 ? 5 : 0;
                }
            } else if (token.kind.equals("NAME")) {
                if (ahead.equals("pigeon")) {
                    error = names.contains(token.text) ? 2 : names.size() == 8 ? 4 : 0;
                    names.add(token.text);
                } else {
                    error = names.contains(token.text) ? 0 : 3;
                }
            }
            if (error != 0) {
                errorAt = token.place;
                return error;
            }
        }
        return 0;
    }

    private String next() {
        return tokens.get(at++).text;
    }

    private boolean skip(String text) {
        boolean is = tokens.get(at).text.equals(text);
        at += is ? 1 : 0;
        return is;
    }

    private void build() {
        State told = new State();
        List<Integer> heights = new ArrayList<>();
        List<Order> toldOrders = new ArrayList<>();
        next();
        while (!skip(";")) {
            heights.add(Integer.parseInt(next()));
        }
        told.heights = heights.stream().mapToInt(h -> h).toArray();
        while (!tokens.get(at).kind.equals("end")) {
            String verb = next();
            if (verb.equals("pigeon")) {
                String name = next();
                next();
                int place = Integer.parseInt(next());
                next();
                told.birds.add(new Bird(name, place, Integer.parseInt(next())));
            } else {
                boolean isMove = verb.equals("hop") || verb.equals("glide");
                String name = isMove ? next() : "";
                String side = isMove ? next() : "";
                ToIntFunction<State> sum = isMove ? s -> 0 : sum();
                Predicate<State> test = skip("when") ? test() : s -> true;
                toldOrders.add(new Order(verb, name, side, sum, test));
            }
            next();
        }
        state = told;
        orders = toldOrders;
    }

    private Predicate<State> test() {
        Predicate<State> left = both();
        while (skip("or")) {
            left = left.or(both());
        }
        return left;
    }

    private Predicate<State> both() {
        Predicate<State> left = single();
        while (skip("and")) {
            left = left.and(single());
        }
        return left;
    }

    private Predicate<State> single() {
        if (skip("not")) {
            return single().negate();
        }
        if (skip("[")) {
            Predicate<State> inner = test();
            next();
            return inner;
        }
        if (skip("hears")) {
            String one = next();
            String other = next();
            return s -> !one.equals(other) && s.isHeard(s.named(other), s.named(one).place);
        }
        if (skip("over")) {
            String one = next();
            String other = next();
            return s -> s.heights[s.named(one).place] > s.heights[s.named(other).place];
        }
        if (skip("dry")) {
            ToIntFunction<State> tower = sum();
            return s -> s.water(s.towerBy(tower.applyAsInt(s))) == 0;
        }
        ToIntFunction<State> left = sum();
        String compare = next();
        ToIntFunction<State> right = sum();
        return s -> {
            int order = Integer.compare(left.applyAsInt(s), right.applyAsInt(s));
            return compare.contains("=") && order == 0 || compare.contains("<") && order < 0 || compare.contains(">") && order > 0;
        };
    }

    private ToIntFunction<State> sum() {
        ToIntFunction<State> left = product();
        while (true) {
            ToIntFunction<State> first = left;
            if (skip("+")) {
                ToIntFunction<State> second = product();
                left = s -> (int) ((long) first.applyAsInt(s) + second.applyAsInt(s));
            } else if (skip("-")) {
                ToIntFunction<State> second = product();
                left = s -> (int) ((long) first.applyAsInt(s) - second.applyAsInt(s));
            } else {
                return left;
            }
        }
    }

    private ToIntFunction<State> product() {
        ToIntFunction<State> left = value();
        while (true) {
            ToIntFunction<State> first = left;
            if (skip("*")) {
                ToIntFunction<State> second = value();
                left = s -> (int) ((long) first.applyAsInt(s) * second.applyAsInt(s));
            } else if (skip("/")) {
                ToIntFunction<State> second = value();
                left = s -> {
                    long by = second.applyAsInt(s);
                    return by == 0 ? 0 : (int) (first.applyAsInt(s) / by);
                };
            } else {
                return left;
            }
        }
    }

    private ToIntFunction<State> value() {
        Token token = tokens.get(at++);
        switch (token.kind) {
            case "NUMBER":
                int number = Integer.parseInt(token.text);
                return s -> number;
            case "day":
                return s -> s.day;
            case "rain":
                return State::trapped;
            case "seen":
                return s -> s.countSeen(-1);
            case "towers":
                return s -> s.heights.length;
            case "noise":
                next();
                String noisy = next();
                return s -> s.noise(s.named(noisy), s.named(noisy).place);
            case "place":
                next();
                String placed = next();
                return s -> s.named(placed).place;
            case "-":
                ToIntFunction<State> turned = value();
                return s -> (int) -(long) turned.applyAsInt(s);
            case "(":
                ToIntFunction<State> inner = sum();
                next();
                return inner;
            case "height":
                next();
                ToIntFunction<State> tower = sum();
                next();
                return s -> s.heights[s.towerBy(tower.applyAsInt(s))];
            default:
                next();
                ToIntFunction<State> one = sum();
                next();
                ToIntFunction<State> other = sum();
                next();
                return token.kind.equals("min")
                        ? s -> Math.min(one.applyAsInt(s), other.applyAsInt(s))
                        : s -> Math.max(one.applyAsInt(s), other.applyAsInt(s));
        }
    }

    // ---- the calls

    private void needTower(int tower) {
        if (tower < 0 || tower >= state.heights.length) {
            throw new IndexOutOfBoundsException();
        }
    }

    private Bird bird(int pigeon) {
        if (pigeon < 0 || pigeon >= state.birds.size()) {
            throw new IndexOutOfBoundsException();
        }
        return state.birds.get(pigeon);
    }

    private static void need(boolean isMet) {
        if (!isMet) {
            throw new IllegalArgumentException();
        }
    }

    private static void needDone(boolean isDone) {
        if (!isDone) {
            throw new IllegalStateException();
        }
    }

    int wetTowers() {
        int count = 0;
        for (int t = 0; t < state.heights.length; t++) {
            count += state.water(t) > 0 ? 1 : 0;
        }
        return count;
    }

    int widestPool() {
        for (int wide = state.heights.length; wide > 0; wide--) {
            for (int from = 0; from + wide <= state.heights.length; from++) {
                int wet = 0;
                for (int t = from; t < from + wide; t++) {
                    wet += state.water(t) > 0 ? 1 : 0;
                }
                if (wet == wide) {
                    return wide;
                }
            }
        }
        return 0;
    }

    int highest() {
        int most = Arrays.stream(state.heights).max().getAsInt();
        for (int t = 0; t < state.heights.length; t++) {
            if (state.heights[t] == most) {
                return t;
            }
        }
        throw new AssertionError();
    }

    int quietest() {
        Map<Integer, Integer> noises = new LinkedHashMap<>();
        for (Bird bird : state.birds) {
            noises.put(noises.size(), state.noise(bird, bird.place));
        }
        return leastKey(noises);
    }

    private static int leastKey(Map<Integer, Integer> values) {
        int best = -1;
        for (int key : values.keySet()) {
            if (best < 0 || values.get(key) < values.get(best)) {
                best = key;
            }
        }
        return best;
    }

    int heardOn(int tower) {
        needTower(tower);
        return (int) state.birds.stream().filter(b -> state.isHeard(b, tower)).count();
    }

    int pigeonsOn(int tower) {
        needTower(tower);
        return (int) state.birds.stream().filter(b -> b.place == tower).count();
    }

    boolean hears(State in, int pigeon, int other) {
        bird(pigeon);
        bird(other);
        return pigeon != other && in.isHeard(in.birds.get(other), in.birds.get(pigeon).place);
    }

    int hop(int pigeon, boolean isRight) {
        Bird bird = bird(pigeon);
        needDone(state.hop(bird, isRight ? 1 : -1));
        return bird.place;
    }

    int glide(int pigeon, boolean isRight) {
        Bird bird = bird(pigeon);
        needDone(state.glide(bird, isRight ? 1 : -1));
        return bird.place;
    }

    int raise(int tower, int by) {
        needTower(tower);
        needDone(state.raise(tower, by));
        return state.trapped();
    }

    int passDays(int days) {
        need(days >= 1 && days <= 30);
        int done = 0;
        for (int k = 0; k < days; k++) {
            done += state.passDay(orders);
        }
        return done;
    }

    int trappedAfter(int days) {
        need(days >= 1 && days <= 30);
        State copy = state.copy();
        for (int k = 0; k < days; k++) {
            copy.passDay(orders);
        }
        return copy.trapped();
    }

    int daysUntilHeard(int pigeon, int other) {
        State copy = state.copy();
        for (int days = 0; days <= 40; days++) {
            if (hears(copy, pigeon, other)) {
                return days;
            }
            copy.passDay(orders);
        }
        return -1;
    }

    int trappedWith(int tower, int height) {
        needTower(tower);
        need(height >= 0 && height <= 20);
        State copy = state.copy();
        copy.heights[tower] = height;
        return copy.trapped();
    }

    int bestToBuild() {
        Map<Integer, Integer> losses = new LinkedHashMap<>();
        for (int t = 0; t < state.heights.length; t++) {
            if (state.heights[t] < 20) {
                losses.put(t, -trappedWith(t, state.heights[t] + 1));
            }
        }
        return leastKey(losses);
    }

    int quietestTower(int pigeon) {
        Map<Integer, Integer> noises = new LinkedHashMap<>();
        for (int t = 0; t < state.heights.length; t++) {
            noises.put(t, state.noise(bird(pigeon), t));
        }
        return leastKey(noises);
    }

    long digest() {
        List<Integer> numbers = new ArrayList<>(List.of(state.heights.length, state.birds.size(), state.day, state.carriedOut,
                state.trapped(), wetTowers(), widestPool(), highest(), state.countSeen(-1), state.countSeen(1), quietest(),
                bestToBuild()));
        for (int t = 0; t < state.heights.length; t++) {
            numbers.addAll(List.of(state.heights[t], state.nextTaller(t, -1), state.nextTaller(t, 1), state.water(t),
                    pigeonsOn(t), heardOn(t)));
        }
        for (int p = 0; p < state.birds.size(); p++) {
            Bird bird = bird(p);
            numbers.addAll(List.of(bird.place, bird.loudness, state.noise(bird, bird.place), quietestTower(p)));
        }
        long d = 1061;
        for (int number : numbers) {
            d = d * 31 + number;
        }
        return d;
    }

    /** Answers a call by its name, a boolean as true or false. */
    Object call(String name, int a, int b) {
        return switch (name) {
            case "errorAt" -> errorAt;
            case "towers" -> state.heights.length;
            case "pigeons" -> state.birds.size();
            case "day" -> state.day;
            case "ordersCarriedOut" -> state.carriedOut;
            case "trapped" -> state.trapped();
            case "wetTowers" -> wetTowers();
            case "widestPool" -> widestPool();
            case "highest" -> highest();
            case "seenFromLeft" -> state.countSeen(-1);
            case "seenFromRight" -> state.countSeen(1);
            case "quietest" -> quietest();
            case "bestToBuild" -> bestToBuild();
            case "meanHeight" -> Arrays.stream(state.heights).average().getAsDouble();
            case "digest" -> digest();
            case "passDays" -> passDays(a);
            case "trappedAfter" -> trappedAfter(a);
            case "trim" -> trim(a);
            default -> callOfTowerOrPigeon(name, a, b);
        };
    }

    private Object callOfTowerOrPigeon(String name, int a, int b) {
        switch (name) {
            case "placeOf", "loudnessOf", "hears", "noiseAt", "hop", "glide", "daysUntilHeard", "quietestTower":
                bird(a);
                break;
            default:
                needTower(a);
        }
        return switch (name) {
            case "heightOf" -> state.heights[a];
            case "isSeenFromLeft" -> state.isSeen(a, -1);
            case "nextTallerLeft" -> state.nextTaller(a, -1);
            case "nextTallerRight" -> state.nextTaller(a, 1);
            case "waterOn" -> state.water(a);
            case "pigeonsOn" -> pigeonsOn(a);
            case "heardOn" -> heardOn(a);
            case "placeOf" -> bird(a).place;
            case "loudnessOf" -> bird(a).loudness;
            case "hears" -> hears(state, a, b);
            case "noiseAt" -> state.noise(bird(a), bird(a).place);
            case "hop" -> hop(a, b > 0);
            case "glide" -> glide(a, b > 0);
            case "build" -> raise(a, 1);
            case "wear" -> raise(a, -1);
            case "daysUntilHeard" -> daysUntilHeard(a, b);
            case "trappedWith" -> trappedWith(a, b);
            case "quietestTower" -> quietestTower(a);
            default -> throw new AssertionError(name);
        };
    }
}
