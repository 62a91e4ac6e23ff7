/**
 * Pigeons over a skyline: towers that trap rain between them, pigeons that sit on the roofs and are
 * heard, and a plan of orders by which both change from day to day.
 *
 * <p>No call makes rows of its own: all that a call works on is made with the object, because
 * everything that the calls of a run make has to find room at once.
 */
public final class RoofPigeons {
    private static final int MOST_BYTES = 2000;
    private static final int BYTES_OF_A_FEED = 20;
    private static final int MOST_TOKENS = 400;
    private static final int MOST_DEPTH = 8;
    private static final int LONGEST_WORD = 10;
    private static final int LONGEST_NUMBER = 6;

    private static final int MOST_TOWERS = 16;
    private static final int MOST_PIGEONS = 8;
    private static final int MOST_ORDERS = 16;
    private static final int GREATEST_HEIGHT = 20;
    private static final int GREATEST_LOUDNESS = 9;
    private static final int MOST_DAYS = 30;
    private static final int MOST_DAYS_TO_LISTEN = 40;

    private static final int NOT_A_SKYLINE = 1;
    private static final int NAME_TOLD_TWICE = 2;
    private static final int NAME_UNKNOWN = 3;
    private static final int TOO_MANY = 4;
    private static final int NUMBER_OUT_OF_RANGE = 5;

    private static final int DIGEST_START = 1061;
    private static final int DIGEST_FACTOR = 31;

    private final Tape tape;
    private final SkylineReader reader;
    private final Keeper keeper;
    private final Sky sky;
    private final Sky trial;
    private Plan plan;

    public RoofPigeons() {
        tape = new Tape();
        reader = new SkylineReader(new Tokens(tape), new Plan());
        keeper = new Keeper();
        sky = new Sky();
        trial = new Sky();
        plan = new Plan();
        plan.addTower(0);
        sky.beginWith(plan);
    }

    // ---- the language

    public int feed(int a, int b, int c, int d, int e) throws IllegalStateException {
        if (!tape.hasRoomFor(BYTES_OF_A_FEED)) {
            throw new IllegalStateException("the tape is full");
        }
        tape.append(a);
        tape.append(b);
        tape.append(c);
        tape.append(d);
        tape.append(e);
        return tape.length;
    }

    public int trim(int n) throws IllegalArgumentException {
        if (n < 0 || n > tape.length) {
            throw new IllegalArgumentException("the tape has not so many bytes");
        }
        tape.length = n;
        return n;
    }

    public int teach() {
        int error = reader.read();
        if (error == 0) {
            plan = reader.handOver(plan);
            sky.beginWith(plan);
        }
        tape.length = 0;
        return error;
    }

    public int errorAt() {
        return reader.errorPlace;
    }

    // ---- the skyline

    public int towers() {
        return sky.towerCount;
    }

    public int pigeons() {
        return sky.pigeonCount;
    }

    public int day() {
        return sky.dayNumber;
    }

    public int ordersCarriedOut() {
        return sky.carriedOut;
    }

    public int trapped() {
        return sky.rain;
    }

    public int wetTowers() {
        return sky.wetCount;
    }

    public int widestPool() {
        return sky.widestWetRow();
    }

    public int highest() {
        return sky.highestTower();
    }

    public int seenFromLeft() {
        return sky.seenLeftCount;
    }

    public int seenFromRight() {
        return sky.seenRightCount;
    }

    // ---- towers

    public int heightOf(int tower) throws IndexOutOfBoundsException {
        needTower(tower);
        return sky.heights[tower];
    }

    public boolean isSeenFromLeft(int tower) throws IndexOutOfBoundsException {
        needTower(tower);
        return sky.seenLeft[tower];
    }

    public int nextTallerLeft(int tower) throws IndexOutOfBoundsException {
        needTower(tower);
        return sky.tallerLeft[tower];
    }

    public int nextTallerRight(int tower) throws IndexOutOfBoundsException {
        needTower(tower);
        return sky.tallerRight[tower];
    }

    public int waterOn(int tower) throws IndexOutOfBoundsException {
        needTower(tower);
        return sky.waters[tower];
    }

    public int pigeonsOn(int tower) throws IndexOutOfBoundsException {
        needTower(tower);
        return sky.countSittingOn(tower);
    }

    public int heardOn(int tower) throws IndexOutOfBoundsException {
        needTower(tower);
        return sky.countHeardOn(tower);
    }

    // ---- pigeons

    public int placeOf(int pigeon) throws IndexOutOfBoundsException {
        needPigeon(pigeon);
        return sky.places[pigeon];
    }

    public int loudnessOf(int pigeon) throws IndexOutOfBoundsException {
        needPigeon(pigeon);
        return sky.loudnesses[pigeon];
    }

    public boolean hears(int pigeon, int other) throws IndexOutOfBoundsException {
        needPigeon(pigeon);
        needPigeon(other);
        return sky.doesHear(pigeon, other);
    }

    public int noiseAt(int pigeon) throws IndexOutOfBoundsException {
        needPigeon(pigeon);
        return sky.noiseFor(pigeon, sky.places[pigeon]);
    }

    public int quietest() {
        return sky.pigeonWithLeastNoise();
    }

    // ---- by hand

    public int hop(int pigeon, boolean isRight) throws IndexOutOfBoundsException, IllegalStateException {
        needPigeon(pigeon);
        if (!sky.tryToHop(pigeon, isRight)) {
            throw new IllegalStateException("no taller tower on that side");
        }
        return sky.places[pigeon];
    }

    public int glide(int pigeon, boolean isRight) throws IndexOutOfBoundsException, IllegalStateException {
        needPigeon(pigeon);
        if (!sky.tryToGlide(pigeon, isRight)) {
            throw new IllegalStateException("no lower tower beside on that side");
        }
        return sky.places[pigeon];
    }

    public int build(int tower) throws IndexOutOfBoundsException, IllegalStateException {
        needTower(tower);
        if (!sky.tryToRaise(tower, 1)) {
            throw new IllegalStateException("the tower is as high as can be");
        }
        return sky.rain;
    }

    public int wear(int tower) throws IndexOutOfBoundsException, IllegalStateException {
        needTower(tower);
        if (!sky.tryToRaise(tower, -1)) {
            throw new IllegalStateException("the tower is worn down");
        }
        return sky.rain;
    }

    // ---- days and what would be

    public int passDays(int days) throws IllegalArgumentException {
        needDays(days);
        int carriedOutBefore = sky.carriedOut;
        for (int passed = 0; passed < days; passed++) {
            keeper.passDay(plan, sky);
        }
        return sky.carriedOut - carriedOutBefore;
    }

    public int trappedAfter(int days) throws IllegalArgumentException {
        needDays(days);
        trial.copy(sky);
        for (int passed = 0; passed < days; passed++) {
            keeper.passDay(plan, trial);
        }
        return trial.rain;
    }

    public int daysUntilHeard(int pigeon, int other) throws IndexOutOfBoundsException {
        needPigeon(pigeon);
        needPigeon(other);
        trial.copy(sky);
        for (int passed = 0; passed < MOST_DAYS_TO_LISTEN; passed++) {
            if (trial.doesHear(pigeon, other)) {
                return passed;
            }
            keeper.passDay(plan, trial);
        }
        return trial.doesHear(pigeon, other) ? MOST_DAYS_TO_LISTEN : -1;
    }

    public int trappedWith(int tower, int height) throws IndexOutOfBoundsException, IllegalArgumentException {
        needTower(tower);
        if (height < 0 || height > GREATEST_HEIGHT) {
            throw new IllegalArgumentException("no tower can have this height");
        }
        trial.copy(sky);
        trial.tryToRaise(tower, height - sky.heights[tower]);
        return trial.rain;
    }

    public int bestToBuild() {
        trial.copy(sky);
        int best = -1;
        int most = -1;
        for (int tower = 0; tower < sky.towerCount; tower++) {
            if (trial.tryToRaise(tower, 1)) {
                if (trial.rain > most) {
                    best = tower;
                    most = trial.rain;
                }
                trial.tryToRaise(tower, -1);
            }
        }
        return best;
    }

    public int quietestTower(int pigeon) throws IndexOutOfBoundsException {
        needPigeon(pigeon);
        return sky.towerWithLeastNoiseFor(pigeon);
    }

    public double meanHeight() {
        return sky.towerCount > 0 ? (double) sky.sumOfHeights() / sky.towerCount : 0.0;
    }

    public long digest() {
        long d = DIGEST_START;
        d = d * DIGEST_FACTOR + towers();
        d = d * DIGEST_FACTOR + pigeons();
        d = d * DIGEST_FACTOR + day();
        d = d * DIGEST_FACTOR + ordersCarriedOut();
        d = d * DIGEST_FACTOR + trapped();
        d = d * DIGEST_FACTOR + wetTowers();
        d = d * DIGEST_FACTOR + widestPool();
        d = d * DIGEST_FACTOR + highest();
        d = d * DIGEST_FACTOR + seenFromLeft();
        d = d * DIGEST_FACTOR + seenFromRight();
        d = d * DIGEST_FACTOR + quietest();
        d = d * DIGEST_FACTOR + bestToBuild();
        return digestWithPigeons(digestWithTowers(d));
    }

    private long digestWithTowers(long start) {
        long d = start;
        for (int tower = 0; tower < sky.towerCount; tower++) {
            d = d * DIGEST_FACTOR + sky.heights[tower];
            d = d * DIGEST_FACTOR + sky.tallerLeft[tower];
            d = d * DIGEST_FACTOR + sky.tallerRight[tower];
            d = d * DIGEST_FACTOR + sky.waters[tower];
            d = d * DIGEST_FACTOR + sky.countSittingOn(tower);
            d = d * DIGEST_FACTOR + sky.countHeardOn(tower);
        }
        return d;
    }

    private long digestWithPigeons(long start) {
        long d = start;
        for (int pigeon = 0; pigeon < sky.pigeonCount; pigeon++) {
            d = d * DIGEST_FACTOR + sky.places[pigeon];
            d = d * DIGEST_FACTOR + sky.loudnesses[pigeon];
            d = d * DIGEST_FACTOR + sky.noiseFor(pigeon, sky.places[pigeon]);
            d = d * DIGEST_FACTOR + sky.towerWithLeastNoiseFor(pigeon);
        }
        return d;
    }

    private void needTower(int tower) {
        if (tower < 0 || tower >= sky.towerCount) {
            throw new IndexOutOfBoundsException("no such tower");
        }
    }

    private void needPigeon(int pigeon) {
        if (pigeon < 0 || pigeon >= sky.pigeonCount) {
            throw new IndexOutOfBoundsException("no such pigeon");
        }
    }

    private void needDays(int days) {
        if (days < 1 || days > MOST_DAYS) {
            throw new IllegalArgumentException("not 1 to 30 days");
        }
    }

    /**
     * What a token is, and what a step of a plan does: most tokens that a plan keeps are reckoned
     * by the step of the same kind. A step takes so many values from the stack.
     */
    private enum Kind {
        ROOFS("roofs", 0), PIGEON("pigeon", 0), AT("at", 0), LOUD("loud", 0),
        HOP("hop", 0), GLIDE("glide", 0), BUILD("build", 0), WEAR("wear", 0),
        LEFT("left", 0), RIGHT("right", 0), WHEN("when", 0),
        DAY("day", 0), RAIN("rain", 0), SEEN("seen", 0), TOWERS("towers", 0),
        HEIGHT("height", 1), NOISE("noise", 0), PLACE("place", 0), OF("of", 0),
        HEARS("hears", 0), DRY("dry", 1), OVER("over", 0),
        NOT("not", 1), AND("and", 2), OR("or", 2), MIN("min", 2), MAX("max", 2),
        OPEN("(", 0), CLOSE(")", 0), OPEN_TEST("[", 0), CLOSE_TEST("]", 0),
        SEMICOLON(";", 0), COMMA(",", 0),
        PLUS("+", 2), MINUS("-", 2), TIMES("*", 2), DIVIDE("/", 2),
        LESS("<", 2), GREATER(">", 2), EQUAL("=", 2), NOT_GREATER("<=", 2), NOT_LESS(">=", 2),
        NEGATE("", 1), NAME("", 0), NUMBER("", 0), TAPE_END("", 0), NO_TOKEN("", 0);

        private static final Kind[] ALL = values();

        private final String text;
        private final int takes;

        Kind(String text, int takes) {
            this.text = text;
            this.takes = takes;
        }
    }

    /** The bytes that were fed. */
    private static final class Tape {
        private final byte[] bytes;
        private int length;

        Tape() {
            bytes = new byte[MOST_BYTES];
            length = 0;
        }

        boolean hasRoomFor(int more) {
            return more <= bytes.length - length;
        }

        void append(int number) {
            for (int shift = 24; shift >= 0; shift -= 8) {
                if (length < bytes.length) {
                    bytes[length] = (byte) (number >> shift);
                    length++;
                }
            }
        }

        int byteAt(int place) {
            return place >= 0 && place < length ? bytes[place] & 255 : -1;
        }

        boolean hasLetterAt(int place) {
            int b = byteAt(place);
            return b >= 'a' && b <= 'z';
        }

        boolean hasDigitAt(int place) {
            int b = byteAt(place);
            return b >= '0' && b <= '9';
        }

        boolean hasBlankAt(int place) {
            int b = byteAt(place);
            return b == ' ' || b == '\n';
        }
    }

    /**
     * The tokens of the tape, up to its end or to the first bytes that are no token: what is behind
     * them can change neither the error nor its place.
     */
    private static final class Tokens {
        private static final int SIGNS_OF_A_NAME = 37;

        private final Tape tape;
        private final Kind[] kinds;
        private final int[] starts;
        private final long[] values;

        Tokens(Tape tape) {
            this.tape = tape;
            kinds = new Kind[MOST_TOKENS + 1];
            for (int token = 0; token < kinds.length; token++) {
                kinds[token] = Kind.NO_TOKEN;
            }
            starts = new int[MOST_TOKENS + 1];
            values = new long[MOST_TOKENS + 1];
        }

        void readAll() {
            int from = 0;
            boolean isOver = false;
            for (int token = 0; token < kinds.length && !isOver; token++) {
                from = endOfBlanks(from);
                int to = endOfToken(from);
                Kind kind = kindOf(from, to);
                if (token == MOST_TOKENS && kind != Kind.TAPE_END) {
                    kind = Kind.NO_TOKEN;
                }
                kinds[token] = kind;
                starts[token] = from;
                values[token] = valueOf(kind, from, to);
                isOver = kind == Kind.TAPE_END || kind == Kind.NO_TOKEN;
                from = to;
            }
        }

        private int endOfBlanks(int from) {
            int place = from;
            while (place < tape.length && tape.hasBlankAt(place)) {
                place++;
            }
            return place;
        }

        private int endOfToken(int from) {
            boolean isWord = tape.hasLetterAt(from);
            if (isWord || tape.hasDigitAt(from)) {
                int place = from;
                while (place < tape.length && (tape.hasDigitAt(place) || isWord && tape.hasLetterAt(place))) {
                    place++;
                }
                return place;
            }
            int first = tape.byteAt(from);
            boolean isPair = (first == '<' || first == '>') && tape.byteAt(from + 1) == '=';
            return Math.min(from + (isPair ? 2 : 1), tape.length);
        }

        private Kind kindOf(int from, int to) {
            if (from >= tape.length) {
                return Kind.TAPE_END;
            }
            if (tape.hasDigitAt(from)) {
                return to - from <= LONGEST_NUMBER ? Kind.NUMBER : Kind.NO_TOKEN;
            }
            if (tape.hasLetterAt(from) && to - from > LONGEST_WORD) {
                return Kind.NO_TOKEN;
            }
            for (Kind kind : Kind.ALL) {
                if (isSpelled(kind.text, from, to)) {
                    return kind;
                }
            }
            return tape.hasLetterAt(from) ? Kind.NAME : Kind.NO_TOKEN;
        }

        private boolean isSpelled(String text, int from, int to) {
            if (text.length() != to - from) {
                return false;
            }
            for (int k = 0; k < text.length(); k++) {
                if (text.charAt(k) != tape.byteAt(from + k)) {
                    return false;
                }
            }
            return true;
        }

        private long valueOf(Kind kind, int from, int to) {
            switch (kind) {
                case NUMBER:
                    return numberBetween(from, to);
                case NAME:
                    return nameBetween(from, to);
                default:
                    return 0;
            }
        }

        private int numberBetween(int from, int to) {
            int number = 0;
            for (int place = from; place < to; place++) {
                number = number * 10 + (tape.byteAt(place) - '0');
            }
            return number;
        }

        /** Answers another number for each name, so that names are the same where these are. */
        private long nameBetween(int from, int to) {
            long name = 0;
            for (int place = from; place < to; place++) {
                int sign = tape.hasDigitAt(place) ? tape.byteAt(place) - '0' : tape.byteAt(place) - 'a' + 10;
                // a sign counts from 1, so that a name is not the same with a 0 ahead
                name = name * SIGNS_OF_A_NAME + sign + 1;
            }
            return name;
        }
    }

    /** An order: to hop or glide a pigeon, or to build or wear the tower that its sum tells. */
    private static final class Order {
        private Kind kind;
        private int pigeon;
        private boolean isRight;
        private int firstOfSum;
        private int firstOfTest;
        private int end;

        Order() {
            kind = Kind.NO_TOKEN;
        }
    }

    /**
     * What a tape tells: the towers and pigeons at first, and the orders, whose sums and tests are
     * kept as steps for a stack. A row that is full takes no more: the reader tells the error.
     */
    private static final class Plan {
        private final int[] heights;
        private final int[] places;
        private final int[] loudnesses;
        private final Order[] orders;
        private final Kind[] stepKinds;
        private final int[] stepFirsts;
        private final int[] stepSeconds;
        private int towerCount;
        private int pigeonCount;
        private int orderCount;
        private int stepCount;

        Plan() {
            heights = new int[MOST_TOWERS];
            places = new int[MOST_PIGEONS];
            loudnesses = new int[MOST_PIGEONS];
            orders = new Order[MOST_ORDERS];
            for (int order = 0; order < orders.length; order++) {
                orders[order] = new Order();
            }
            stepKinds = new Kind[MOST_TOKENS];
            for (int step = 0; step < stepKinds.length; step++) {
                stepKinds[step] = Kind.NO_TOKEN;
            }
            stepFirsts = new int[MOST_TOKENS];
            stepSeconds = new int[MOST_TOKENS];
        }

        void clear() {
            towerCount = 0;
            pigeonCount = 0;
            orderCount = 0;
            stepCount = 0;
        }

        void addTower(int height) {
            if (towerCount < heights.length) {
                heights[towerCount] = height;
                towerCount++;
            }
        }

        void addPigeon(int place, int loudness) {
            if (pigeonCount < places.length) {
                places[pigeonCount] = place;
                loudnesses[pigeonCount] = loudness;
                pigeonCount++;
            }
        }

        void addOrder(Kind kind, int pigeon, boolean isRight, int firstOfSum, int firstOfTest) {
            if (orderCount < orders.length) {
                Order order = orders[orderCount];
                order.kind = kind;
                order.pigeon = pigeon;
                order.isRight = isRight;
                order.firstOfSum = firstOfSum;
                order.firstOfTest = firstOfTest;
                order.end = stepCount;
                orderCount++;
            }
        }

        void addStep(Kind kind, int first, int second) {
            if (stepCount < stepKinds.length) {
                stepKinds[stepCount] = kind;
                stepFirsts[stepCount] = first;
                stepSeconds[stepCount] = second;
                stepCount++;
            }
        }
    }

    /**
     * Reads the tokens as a skyline into a plan that is not yet in force. A method for a part of the
     * grammar takes the part's tokens and answers whether all were there; where not, the token that
     * stands there is error 1, and nothing more is read. Of the other errors the first one is noted
     * on the way, because the reading goes from left to right as well.
     */
    private static final class SkylineReader {
        private final Tokens tokens;
        private final long[] names;
        private Plan plan;
        private int at;
        private Kind here;
        private int error;
        private int errorToken;
        private int errorPlace;

        SkylineReader(Tokens tokens, Plan plan) {
            this.tokens = tokens;
            this.plan = plan;
            names = new long[MOST_PIGEONS];
            here = Kind.NO_TOKEN;
            errorPlace = -1;
        }

        /** Answers 0, or the error. */
        int read() {
            tokens.readAll();
            plan.clear();
            at = 0;
            here = tokens.kinds[0];
            error = 0;
            if (!takeRoofs() || !takeLines()) {
                error = NOT_A_SKYLINE;
                errorToken = at;
            }
            errorPlace = error == 0 ? -1 : tokens.starts[errorToken];
            return error;
        }

        /** Gives away the plan that was read; the next one is read into the other. */
        Plan handOver(Plan other) {
            Plan read = plan;
            plan = other;
            return read;
        }

        private void skip() {
            if (at < MOST_TOKENS) {
                at++;
                here = tokens.kinds[at];
            }
        }

        private boolean take(Kind kind) {
            if (here != kind) {
                return false;
            }
            skip();
            return true;
        }

        /** Takes a token behind which the depth is greater, if it may be. */
        private boolean takeDeeper(Kind kind, int depth) {
            if (depth >= MOST_DEPTH || here != kind) {
                return false;
            }
            skip();
            return true;
        }

        private void note(int number) {
            if (error == 0) {
                error = number;
                errorToken = at;
            }
        }

        private boolean takeRoofs() {
            if (!take(Kind.ROOFS) || here != Kind.NUMBER) {
                return false;
            }
            for (int roofs = 0; roofs < MOST_TOKENS && here == Kind.NUMBER; roofs++) {
                int height = (int) tokens.values[at];
                if (plan.towerCount >= MOST_TOWERS) {
                    note(TOO_MANY);
                } else if (height > GREATEST_HEIGHT) {
                    note(NUMBER_OUT_OF_RANGE);
                }
                plan.addTower(height);
                skip();
            }
            return take(Kind.SEMICOLON);
        }

        private boolean takeLines() {
            for (int lines = 0; lines < MOST_TOKENS && here != Kind.TAPE_END; lines++) {
                boolean isLine = here == Kind.PIGEON ? takePigeon() : takeOrder();
                if (!isLine || !take(Kind.SEMICOLON)) {
                    return false;
                }
            }
            return here == Kind.TAPE_END;
        }

        private boolean takePigeon() {
            skip();
            if (here != Kind.NAME) {
                return false;
            }
            takeNewName();
            if (!take(Kind.AT) || here != Kind.NUMBER) {
                return false;
            }
            int place = takeNumber(0, plan.towerCount - 1);
            if (!take(Kind.LOUD) || here != Kind.NUMBER) {
                return false;
            }
            plan.addPigeon(place, takeNumber(1, GREATEST_LOUDNESS));
            return true;
        }

        private void takeNewName() {
            for (int pigeon = 0; pigeon < plan.pigeonCount; pigeon++) {
                if (names[pigeon] == tokens.values[at]) {
                    note(NAME_TOLD_TWICE);
                }
            }
            if (plan.pigeonCount < MOST_PIGEONS) {
                names[plan.pigeonCount] = tokens.values[at];
            } else {
                note(TOO_MANY);
            }
            skip();
        }

        private int takeNumber(int least, int most) {
            int number = (int) tokens.values[at];
            if (number < least || number > most) {
                note(NUMBER_OUT_OF_RANGE);
            }
            skip();
            return number;
        }

        /** Answers the pigeon of a name, or -1 without a name; behind an error any pigeon will do. */
        private int takeKnownName() {
            if (here != Kind.NAME) {
                return -1;
            }
            int found = -1;
            for (int pigeon = 0; pigeon < plan.pigeonCount; pigeon++) {
                if (names[pigeon] == tokens.values[at]) {
                    found = pigeon;
                }
            }
            if (found < 0) {
                note(NAME_UNKNOWN);
            }
            skip();
            return Math.max(found, 0);
        }

        private boolean takeOrder() {
            Kind kind = here;
            boolean isMove = kind == Kind.HOP || kind == Kind.GLIDE;
            if (!isMove && kind != Kind.BUILD && kind != Kind.WEAR) {
                return false;
            }
            if (plan.orderCount >= MOST_ORDERS) {
                note(TOO_MANY);
            }
            skip();
            int firstOfSum = plan.stepCount;
            int pigeon = isMove ? takeKnownName() : 0;
            boolean isRight = here == Kind.RIGHT;
            boolean isWhole = isMove ? pigeon >= 0 && takeSide() : takeSum(0);
            int firstOfTest = plan.stepCount;
            if (!isWhole || take(Kind.WHEN) && !takeTest(0)) {
                return false;
            }
            plan.addOrder(kind, pigeon, isRight, firstOfSum, firstOfTest);
            return true;
        }

        private boolean takeSide() {
            return take(Kind.LEFT) || take(Kind.RIGHT);
        }

        private boolean takeTest(int depth) {
            if (!takeBoth(depth)) {
                return false;
            }
            for (int more = 0; more < MOST_TOKENS && here == Kind.OR; more++) {
                skip();
                if (!takeBoth(depth)) {
                    return false;
                }
                plan.addStep(Kind.OR, 0, 0);
            }
            return true;
        }

        private boolean takeBoth(int depth) {
            if (!takeSingle(depth)) {
                return false;
            }
            for (int more = 0; more < MOST_TOKENS && here == Kind.AND; more++) {
                skip();
                if (!takeSingle(depth)) {
                    return false;
                }
                plan.addStep(Kind.AND, 0, 0);
            }
            return true;
        }

        private boolean takeSingle(int depth) {
            Kind kind = here;
            switch (kind) {
                case NOT:
                    if (!takeDeeper(kind, depth) || !takeSingle(depth + 1)) {
                        return false;
                    }
                    plan.addStep(kind, 0, 0);
                    return true;
                case OPEN_TEST:
                    return takeDeeper(kind, depth) && takeTest(depth + 1) && take(Kind.CLOSE_TEST);
                case HEARS:
                case OVER:
                    skip();
                    int first = takeKnownName();
                    int second = first < 0 ? -1 : takeKnownName();
                    if (second < 0) {
                        return false;
                    }
                    plan.addStep(kind, first, second);
                    return true;
                case DRY:
                    skip();
                    if (!takeSum(depth)) {
                        return false;
                    }
                    plan.addStep(kind, 0, 0);
                    return true;
                default:
                    return takeComparison(depth);
            }
        }

        private boolean takeComparison(int depth) {
            if (!takeSum(depth)) {
                return false;
            }
            Kind kind = here;
            switch (kind) {
                case LESS:
                case GREATER:
                case EQUAL:
                case NOT_GREATER:
                case NOT_LESS:
                    skip();
                    break;
                default:
                    return false;
            }
            if (!takeSum(depth)) {
                return false;
            }
            plan.addStep(kind, 0, 0);
            return true;
        }

        private boolean takeSum(int depth) {
            if (!takeProduct(depth)) {
                return false;
            }
            for (int more = 0; more < MOST_TOKENS && (here == Kind.PLUS || here == Kind.MINUS); more++) {
                Kind kind = here;
                skip();
                if (!takeProduct(depth)) {
                    return false;
                }
                plan.addStep(kind, 0, 0);
            }
            return true;
        }

        private boolean takeProduct(int depth) {
            if (!takeValue(depth)) {
                return false;
            }
            for (int more = 0; more < MOST_TOKENS && (here == Kind.TIMES || here == Kind.DIVIDE); more++) {
                Kind kind = here;
                skip();
                if (!takeValue(depth)) {
                    return false;
                }
                plan.addStep(kind, 0, 0);
            }
            return true;
        }

        private boolean takeValue(int depth) {
            Kind kind = here;
            switch (kind) {
                case NUMBER:
                    plan.addStep(kind, (int) tokens.values[at], 0);
                    skip();
                    return true;
                case DAY:
                case RAIN:
                case SEEN:
                case TOWERS:
                    plan.addStep(kind, 0, 0);
                    skip();
                    return true;
                case NOISE:
                case PLACE:
                    skip();
                    int pigeon = take(Kind.OF) ? takeKnownName() : -1;
                    if (pigeon < 0) {
                        return false;
                    }
                    plan.addStep(kind, pigeon, 0);
                    return true;
                case MINUS:
                    if (!takeDeeper(kind, depth) || !takeValue(depth + 1)) {
                        return false;
                    }
                    plan.addStep(Kind.NEGATE, 0, 0);
                    return true;
                case OPEN:
                    return takeDeeper(kind, depth) && takeSum(depth + 1) && take(Kind.CLOSE);
                case HEIGHT:
                case MIN:
                case MAX:
                    return takeFunction(depth);
                default:
                    return false;
            }
        }

        private boolean takeFunction(int depth) {
            Kind kind = here;
            skip();
            if (!takeDeeper(Kind.OPEN, depth) || !takeSum(depth + 1)) {
                return false;
            }
            if (kind != Kind.HEIGHT && !(take(Kind.COMMA) && takeSum(depth + 1))) {
                return false;
            }
            plan.addStep(kind, 0, 0);
            return take(Kind.CLOSE);
        }
    }

    /** Carries out the orders of a plan over a sky, and reckons their sums and tests (1 holds, 0 not). */
    private static final class Keeper {
        private final int[] stack;
        private int stacked;

        Keeper() {
            stack = new int[MOST_TOKENS];
        }

        void passDay(Plan plan, Sky sky) {
            for (int k = 0; k < plan.orderCount; k++) {
                if (isCarriedOut(plan, plan.orders[k], sky)) {
                    sky.carriedOut++;
                }
            }
            sky.leaveWetTowers();
            sky.dayNumber++;
        }

        private boolean isCarriedOut(Plan plan, Order order, Sky sky) {
            boolean hasTest = order.firstOfTest < order.end;
            if (hasTest && reckon(plan, order.firstOfTest, order.end, sky) == 0) {
                return false;
            }
            switch (order.kind) {
                case HOP:
                    return sky.tryToHop(order.pigeon, order.isRight);
                case GLIDE:
                    return sky.tryToGlide(order.pigeon, order.isRight);
                default:
                    int number = reckon(plan, order.firstOfSum, order.firstOfTest, sky);
                    return sky.tryToRaise(sky.towerByRemainder(number), order.kind == Kind.BUILD ? 1 : -1);
            }
        }

        private int reckon(Plan plan, int first, int end, Sky sky) {
            stacked = 0;
            for (int step = first; step < end; step++) {
                Kind kind = plan.stepKinds[step];
                switch (kind.takes) {
                    case 2:
                        int right = pop();
                        push(ofTwo(kind, pop(), right));
                        break;
                    case 1:
                        push(ofOne(kind, pop(), sky));
                        break;
                    default:
                        push(ofNone(kind, plan.stepFirsts[step], plan.stepSeconds[step], sky));
                        break;
                }
            }
            return pop();
        }

        private void push(int value) {
            if (stacked < stack.length) {
                stack[stacked] = value;
                stacked++;
            }
        }

        private int pop() {
            if (stacked <= 0) {
                return 0;
            }
            stacked--;
            return stack[stacked];
        }

        private static int ofNone(Kind kind, int first, int second, Sky sky) {
            switch (kind) {
                case NUMBER:
                    return first;
                case DAY:
                    return sky.dayNumber;
                case RAIN:
                    return sky.rain;
                case SEEN:
                    return sky.seenLeftCount;
                case TOWERS:
                    return sky.towerCount;
                case NOISE:
                    return sky.noiseFor(first, sky.places[first]);
                case PLACE:
                    return sky.places[first];
                case HEARS:
                    return asNumber(sky.doesHear(first, second));
                case OVER:
                    return asNumber(sky.heightUnder(first) > sky.heightUnder(second));
                default:
                    return 0;
            }
        }

        private static int ofOne(Kind kind, int value, Sky sky) {
            switch (kind) {
                case NEGATE:
                    return -value;
                case NOT:
                    return 1 - value;
                case HEIGHT:
                    return sky.heights[sky.towerByRemainder(value)];
                case DRY:
                    return asNumber(!sky.isWet(sky.towerByRemainder(value)));
                default:
                    return 0;
            }
        }

        private static int ofTwo(Kind kind, int left, int right) {
            switch (kind) {
                case PLUS:
                    return left + right;
                case MINUS:
                    return left - right;
                case TIMES:
                    return left * right;
                case DIVIDE:
                    return right == 0 ? 0 : left / right;
                case MIN:
                    return Math.min(left, right);
                case MAX:
                    return Math.max(left, right);
                case LESS:
                    return asNumber(left < right);
                case GREATER:
                    return asNumber(left > right);
                case EQUAL:
                    return asNumber(left == right);
                case NOT_GREATER:
                    return asNumber(left <= right);
                case NOT_LESS:
                    return asNumber(left >= right);
                case AND:
                    return left & right;
                case OR:
                    return left | right;
                default:
                    return 0;
            }
        }

        private static int asNumber(boolean holds) {
            return holds ? 1 : 0;
        }
    }

    /**
     * Towers and pigeons on one day. What follows from the heights alone is kept beside them and
     * reckoned anew when a height changes, because tests ask for it far more often.
     */
    private static final class Sky {
        private final int[] heights;
        private final int[] tallerLeft;
        private final int[] tallerRight;
        private final int[] waters;
        private final boolean[] seenLeft;
        private final int[] places;
        private final int[] loudnesses;
        private int towerCount;
        private int pigeonCount;
        private int dayNumber;
        private int carriedOut;
        private int rain;
        private int wetCount;
        private int seenLeftCount;
        private int seenRightCount;

        Sky() {
            heights = new int[MOST_TOWERS];
            tallerLeft = new int[MOST_TOWERS];
            tallerRight = new int[MOST_TOWERS];
            waters = new int[MOST_TOWERS];
            seenLeft = new boolean[MOST_TOWERS];
            places = new int[MOST_PIGEONS];
            loudnesses = new int[MOST_PIGEONS];
        }

        void beginWith(Plan plan) {
            System.arraycopy(plan.heights, 0, heights, 0, MOST_TOWERS);
            System.arraycopy(plan.places, 0, places, 0, MOST_PIGEONS);
            System.arraycopy(plan.loudnesses, 0, loudnesses, 0, MOST_PIGEONS);
            towerCount = plan.towerCount;
            pigeonCount = plan.pigeonCount;
            dayNumber = 0;
            carriedOut = 0;
            settle();
        }

        void copy(Sky other) {
            System.arraycopy(other.heights, 0, heights, 0, MOST_TOWERS);
            System.arraycopy(other.places, 0, places, 0, MOST_PIGEONS);
            System.arraycopy(other.loudnesses, 0, loudnesses, 0, MOST_PIGEONS);
            towerCount = other.towerCount;
            pigeonCount = other.pigeonCount;
            dayNumber = other.dayNumber;
            carriedOut = other.carriedOut;
            settle();
        }

        private void settle() {
            findNextTaller();
            lookFromLeft();
            lookFromRight();
        }

        private void findNextTaller() {
            for (int tower = 0; tower < towerCount; tower++) {
                int left = tower - 1;
                while (left >= 0 && heights[left] <= heights[tower]) {
                    left--;
                }
                tallerLeft[tower] = left;
                int right = tower + 1;
                while (right < towerCount && heights[right] <= heights[tower]) {
                    right++;
                }
                tallerRight[tower] = right < towerCount ? right : -1;
            }
        }

        /** Leaves in waters how high the highest tower to the left is, for lookFromRight. */
        private void lookFromLeft() {
            int top = -1;
            seenLeftCount = 0;
            for (int tower = 0; tower < towerCount; tower++) {
                waters[tower] = top;
                seenLeft[tower] = heights[tower] > top;
                if (seenLeft[tower]) {
                    seenLeftCount++;
                    top = heights[tower];
                }
            }
        }

        private void lookFromRight() {
            int top = -1;
            seenRightCount = 0;
            rain = 0;
            wetCount = 0;
            for (int tower = towerCount - 1; tower >= 0; tower--) {
                waters[tower] = Math.max(Math.min(waters[tower], top) - heights[tower], 0);
                rain += waters[tower];
                if (waters[tower] > 0) {
                    wetCount++;
                }
                if (heights[tower] > top) {
                    seenRightCount++;
                    top = heights[tower];
                }
            }
        }

        /** Makes a tower so much higher, or less high, if a tower may be so high and it changes. */
        boolean tryToRaise(int tower, int by) {
            int height = heights[tower] + by;
            if (by == 0 || height < 0 || height > GREATEST_HEIGHT) {
                return false;
            }
            heights[tower] = height;
            settle();
            return true;
        }

        boolean tryToHop(int pigeon, boolean isRight) {
            int place = places[pigeon];
            int target = isRight ? tallerRight[place] : tallerLeft[place];
            if (target < 0) {
                return false;
            }
            places[pigeon] = target;
            return true;
        }

        boolean tryToGlide(int pigeon, boolean isRight) {
            int place = places[pigeon];
            int target = isRight ? place + 1 : place - 1;
            if (target < 0 || target >= towerCount || heights[target] >= heights[place]) {
                return false;
            }
            places[pigeon] = target;
            return true;
        }

        void leaveWetTowers() {
            for (int pigeon = 0; pigeon < pigeonCount; pigeon++) {
                places[pigeon] = nearestDryTower(places[pigeon]);
            }
        }

        private int nearestDryTower(int tower) {
            for (int far = 0; far < towerCount; far++) {
                if (tower - far >= 0 && !isWet(tower - far)) {
                    return tower - far;
                }
                if (tower + far < towerCount && !isWet(tower + far)) {
                    return tower + far;
                }
            }
            return tower;
        }

        boolean isWet(int tower) {
            return waters[tower] > 0;
        }

        int towerByRemainder(int number) {
            return towerCount > 0 ? Math.floorMod(number, towerCount) : 0;
        }

        int widestWetRow() {
            int widest = 0;
            int wide = 0;
            for (int tower = 0; tower < towerCount; tower++) {
                wide = isWet(tower) ? wide + 1 : 0;
                widest = Math.max(widest, wide);
            }
            return widest;
        }

        int highestTower() {
            int highest = 0;
            for (int tower = 1; tower < towerCount; tower++) {
                if (heights[tower] > heights[highest]) {
                    highest = tower;
                }
            }
            return highest;
        }

        int sumOfHeights() {
            int sum = 0;
            for (int tower = 0; tower < towerCount; tower++) {
                sum += heights[tower];
            }
            return sum;
        }

        int heightUnder(int pigeon) {
            return heights[places[pigeon]];
        }

        int countSittingOn(int tower) {
            int count = 0;
            for (int pigeon = 0; pigeon < pigeonCount; pigeon++) {
                if (places[pigeon] == tower) {
                    count++;
                }
            }
            return count;
        }

        int countHeardOn(int tower) {
            int count = 0;
            for (int pigeon = 0; pigeon < pigeonCount; pigeon++) {
                if (isHeardOn(pigeon, tower)) {
                    count++;
                }
            }
            return count;
        }

        private boolean isHeardOn(int pigeon, int tower) {
            int left = tallerLeft[places[pigeon]];
            int right = tallerRight[places[pigeon]];
            return tower >= left && (right < 0 || tower <= right);
        }

        boolean doesHear(int pigeon, int other) {
            return pigeon != other && isHeardOn(other, places[pigeon]);
        }

        /** Answers the noise that the pigeon would have on the tower. */
        int noiseFor(int pigeon, int tower) {
            int noise = 0;
            for (int other = 0; other < pigeonCount; other++) {
                if (other != pigeon && isHeardOn(other, tower)) {
                    noise += loudnesses[other];
                }
            }
            return noise;
        }

        int pigeonWithLeastNoise() {
            int quietest = -1;
            int least = 0;
            for (int pigeon = 0; pigeon < pigeonCount; pigeon++) {
                int noise = noiseFor(pigeon, places[pigeon]);
                if (quietest < 0 || noise < least) {
                    quietest = pigeon;
                    least = noise;
                }
            }
            return quietest;
        }

        int towerWithLeastNoiseFor(int pigeon) {
            int quietest = 0;
            int least = noiseFor(pigeon, 0);
            for (int tower = 1; tower < towerCount; tower++) {
                int noise = noiseFor(pigeon, tower);
                if (noise < least) {
                    quietest = tower;
                    least = noise;
                }
            }
            return quietest;
        }
    }
}
