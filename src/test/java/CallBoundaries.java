import java.util.function.ObjIntConsumer;

/** The boundary cases of promises 1 to 27, a test for each sentence. */
final class CallBoundaries {
    private static final String SIXTEEN = "roofs 1 2 3 4 5 6 7 8 9 10 11 12 13 14 15 16;";
    private static final String PLAIN = "roofs 4 4 4 4 4 4 4 4 4 4 4 4 4 4 4 4;";
    private static final String WIDEST_POOL = "roofs 20 0 0 0 0 0 0 0 0 0 0 0 0 0 0 20;";
    private static final int BLANKS = 0x20202020;

    private CallBoundaries() {
    }

    static void run() {
        language();
        skyline();
        towers();
        pigeons();
    }

    private static void language() {
        Sentences.test("Promise 1", "Creates a skyline with one tower of a height of 0, without pigeons and orders, in the day 0.",
                CallBoundaries::newObject);
        Sentences.test("Promise 2", "Appends twenty bytes to the tape: the four bytes of each number, the highest one first.",
                CallBoundaries::highestByteFirst);
        Sentences.test("Promise 2", "`a`: bytes 1 to 4", () -> dueBytes(1, 4));
        Sentences.test("Promise 2", "`b`: bytes 5 to 8", () -> dueBytes(5, 8));
        Sentences.test("Promise 2", "`c`: bytes 9 to 12", () -> dueBytes(9, 12));
        Sentences.test("Promise 2", "`d`: bytes 13 to 16", () -> dueBytes(13, 16));
        Sentences.test("Promise 2", "`e`: bytes 17 to 20", () -> dueBytes(17, 20));
        Sentences.test("Promise 2", "Returns the number of bytes of the tape.", CallBoundaries::feedReturns);
        Sentences.test("Promise 2", "Throws `IllegalStateException` if there would be more than 2000", CallBoundaries::feedBeyond2000);
        Sentences.test("Promise 3", "Shortens the tape to its first bytes.", CallBoundaries::firstBytesAreKept);
        Sentences.test("Promise 3", "`n`: how many are kept", CallBoundaries::howManyAreKept);
        Sentences.test("Promise 3", "Returns n.", CallBoundaries::trimReturns);
        Sentences.test("Promise 3", "Throws `IllegalArgumentException` if n is not 0 to the number of bytes of the tape",
                CallBoundaries::trimBeyond);
        Sentences.test("Promise 4", "Reads the tape as a skyline, in the place of all that was told before;", CallBoundaries::inThePlaceOfAll);
        Sentences.test("Promise 4", "all begins anew, in the day 0.", CallBoundaries::allBeginsAnew);
        Sentences.test("Promise 4", "If it has an error, all stays (but the tape is empty).", CallBoundaries::allStays);
        Sentences.test("Promise 4", "Returns 0, or the error, 1 to 5.", CallBoundaries::teachReturns);
        Sentences.test("Promise 5", "Returns the position of the error of the latest teach();", CallBoundaries::errorOfTheLatest);
        Sentences.test("Promise 5", "-1 if it had none, or there was none.", CallBoundaries::noErrorOfTheLatest);
    }

    private static void skyline() {
        Sentences.test("Promise 6", "Returns how many towers there are.", CallBoundaries::towersThereAre);
        Sentences.test("Promise 7", "Returns how many pigeons there are.", CallBoundaries::pigeonsThereAre);
        Sentences.test("Promise 8", "Returns the day.", CallBoundaries::theDay);
        Sentences.test("Promise 9", "Returns how many orders were carried out in all.", CallBoundaries::carriedOutInAll);
        Sentences.test("Promise 10", "Returns how much rain is trapped.", CallBoundaries::rainThatIsTrapped);
        Sentences.test("Promise 11", "Returns how many towers are wet.", CallBoundaries::towersThatAreWet);
        Sentences.test("Promise 12", "Returns how many wet towers stand side by side at the most.", CallBoundaries::widestPool);
        Sentences.test("Promise 13", "Returns the highest tower, of several the smallest number.", CallBoundaries::highest);
        Sentences.test("Promise 14", "Returns how many roofs are seen from the left.", CallBoundaries::seenFromLeft);
        Sentences.test("Promise 15", "Returns how many roofs are seen from the right.", CallBoundaries::seenFromRight);
    }

    private static void towers() {
        Sentences.test("Promise 16", "`tower`: a tower", CallBoundaries::heightOfFirstAndLast);
        Sentences.test("Promise 16", "Returns its height.", CallBoundaries::heights0To20);
        noSuchTower("Promise 16", "heightOf", RoofPigeons::heightOf);
        Sentences.test("Promise 17", "`tower`: a tower", CallBoundaries::isSeenOfFirstAndLast);
        Sentences.test("Promise 17", "Returns whether its roof is seen from the left.", CallBoundaries::isSeenAmongEquals);
        noSuchTower("Promise 17", "isSeenFromLeft", RoofPigeons::isSeenFromLeft);
        Sentences.test("Promise 18", "`tower`: a tower", CallBoundaries::nextTallerLeftOfFirstAndLast);
        Sentences.test("Promise 18", "Returns the next taller tower to its left; -1 if there is none.", CallBoundaries::nextTallerLeft);
        noSuchTower("Promise 18", "nextTallerLeft", RoofPigeons::nextTallerLeft);
        Sentences.test("Promise 19", "`tower`: a tower", CallBoundaries::nextTallerRightOfFirstAndLast);
        Sentences.test("Promise 19", "Returns the next taller tower to its right; -1 if there is none.", CallBoundaries::nextTallerRight);
        noSuchTower("Promise 19", "nextTallerRight", RoofPigeons::nextTallerRight);
        Sentences.test("Promise 20", "`tower`: a tower", CallBoundaries::waterOnFirstAndLast);
        Sentences.test("Promise 20", "Returns how high water stands on it; 0 if it is dry.", CallBoundaries::waterOn);
        noSuchTower("Promise 20", "waterOn", RoofPigeons::waterOn);
        Sentences.test("Promise 21", "`tower`: a tower", CallBoundaries::pigeonsOnFirstAndLast);
        Sentences.test("Promise 21", "Returns how many pigeons sit on it.", CallBoundaries::pigeons0To8On);
        noSuchTower("Promise 21", "pigeonsOn", RoofPigeons::pigeonsOn);
        Sentences.test("Promise 22", "`tower`: a tower", CallBoundaries::heardOnFirstAndLast);
        Sentences.test("Promise 22", "Returns how many pigeons are heard on it.", CallBoundaries::pigeons0To8HeardOn);
        noSuchTower("Promise 22", "heardOn", RoofPigeons::heardOn);
    }

    private static void pigeons() {
        Sentences.test("Promise 23", "`pigeon`: a pigeon", CallBoundaries::placeOfFirstAndLast);
        Sentences.test("Promise 23", "Returns the tower on which it sits.", CallBoundaries::placeOf);
        noSuchPigeon("Promise 23", "placeOf", RoofPigeons::placeOf);
        Sentences.test("Promise 24", "`pigeon`: a pigeon", CallBoundaries::loudnessOfFirstAndLast);
        Sentences.test("Promise 24", "Returns how loud it is.", CallBoundaries::loudness1To9);
        noSuchPigeon("Promise 24", "loudnessOf", RoofPigeons::loudnessOf);
        Sentences.test("Promise 25", "`pigeon`: a pigeon", CallBoundaries::hearsOfFirstAndLast);
        Sentences.test("Promise 25", "`other`: another one, or the same", CallBoundaries::hearsAnother);
        Sentences.test("Promise 25", "Returns whether the first one hears the other one; false for the same.", CallBoundaries::hears);
        noSuchPigeonOfTwo("Promise 25", "hears", RoofPigeons::hears);
        Sentences.test("Promise 26", "`pigeon`: a pigeon", CallBoundaries::noiseAtFirstAndLast);
        Sentences.test("Promise 26", "Returns its noise.", CallBoundaries::noise0To63);
        noSuchPigeon("Promise 26", "noiseAt", RoofPigeons::noiseAt);
        Sentences.test("Promise 27", "Returns the pigeon with the least noise, of several the smallest number; -1 without any.",
                CallBoundaries::quietest);
    }

    // ---- no such tower or pigeon

    /** The test that a call throws for each number that is not that of a tower, and changes nothing. */
    static void noSuchTower(String promise, String name, ObjIntConsumer<RoofPigeons> call) {
        Sentences.test(promise, "Throws `IndexOutOfBoundsException` if there is no such tower", () -> {
            dueNoIndex(new RoofPigeons(), name, call, 1);
            dueNoIndex(Checks.taught("roofs 3 1 3;pigeon a at 1 loud 1;build 0;"), name, call, 3);
            dueNoIndex(Checks.taught(SIXTEEN), name, call, 16);
        });
    }

    /** The test that a call throws for each number that is not that of a pigeon, and changes nothing. */
    static void noSuchPigeon(String promise, String name, ObjIntConsumer<RoofPigeons> call) {
        Sentences.test(promise, "Throws `IndexOutOfBoundsException` if there is no such pigeon", () -> {
            dueNoIndex(new RoofPigeons(), name, call, 0);
            dueNoIndex(Checks.taught("roofs 3 1 3;pigeon a at 1 loud 1;hop a left;"), name, call, 1);
            dueNoIndex(Checks.taught("roofs 3 1 3;" + pigeonsAt(1)), name, call, 8);
        });
    }

    interface CallOfTwo {
        void accept(RoofPigeons x, int pigeon, int other);
    }

    /** The same of a call with two pigeons, of which one or both are none. */
    static void noSuchPigeonOfTwo(String promise, String name, CallOfTwo call) {
        Sentences.test(promise, "Throws `IndexOutOfBoundsException` if there is no such pigeon", () -> {
            RoofPigeons x = Checks.taught("roofs 3 1 3;" + pigeonsAt(1));
            dueNoIndex(x, name + " of 7 and", (y, other) -> call.accept(y, 7, other), 8);
            dueNoIndex(x, name + " with 7", (y, pigeon) -> call.accept(y, pigeon, 7), 8);
            dueNoIndex(x, name + " with itself", (y, pigeon) -> call.accept(y, pigeon, pigeon), 8);
            dueNoIndex(new RoofPigeons(), name + " with itself", (y, pigeon) -> call.accept(y, pigeon, pigeon), 0);
            Checks.noIndex(name + " of -1 and 8", () -> call.accept(x, -1, 8));
            Checks.noIndex(name + " of 8 and -1", () -> call.accept(x, 8, -1));
        });
    }

    private static void dueNoIndex(RoofPigeons x, String name, ObjIntConsumer<RoofPigeons> call, int count) {
        long digest = x.digest();
        for (int number : new int[] {-1, count, count + 1, 16, 255, Integer.MIN_VALUE, Integer.MAX_VALUE}) {
            Checks.noIndex(name + " of " + number + ", of " + count, () -> call.accept(x, number));
        }
        Checks.due("digest(): " + name + " changes nothing", x.digest(), digest);
        Checks.due("whether " + name + " takes the last one", isTaken(x, call, count - 1), count > 0);
        Checks.due("whether " + name + " takes the first one", isTaken(x, call, 0), count > 0);
    }

    private static boolean isTaken(RoofPigeons x, ObjIntConsumer<RoofPigeons> call, int number) {
        try {
            call.accept(x, number);
            return true;
        } catch (IllegalStateException e) {
            // there is such a one, with which it cannot be done
            return true;
        } catch (IndexOutOfBoundsException e) {
            return false;
        }
    }

    /** Lines of eight pigeons on a tower, p0 to p7, with the loudness 1 to 8. */
    static String pigeonsAt(int tower) {
        StringBuilder text = new StringBuilder();
        for (int k = 0; k < 8; k++) {
            text.append("pigeon p").append(k).append(" at ").append(tower).append(" loud ").append(k + 1).append(';');
        }
        return text.toString();
    }

    // ---- promises 1 to 5

    private static void newObject() {
        RoofPigeons x = new RoofPigeons();
        Checks.due("towers()", x.towers(), 1);
        Checks.due("heightOf(0)", x.heightOf(0), 0);
        Checks.due("pigeons()", x.pigeons(), 0);
        Checks.due("day()", x.day(), 0);
        Checks.due("ordersCarriedOut()", x.ordersCarriedOut(), 0);
        Checks.due("quietest()", x.quietest(), -1);
        Checks.due("passDays(30): there are no orders", x.passDays(30), 0);
        Checks.due("heightOf(0)", x.heightOf(0), 0);
        // one object is not another
        x.build(0);
        Checks.due("heightOf(0) of another", new RoofPigeons().heightOf(0), 0);
    }

    private static void highestByteFirst() {
        // "roof" "s 1 " "2 3;" and blanks
        RoofPigeons x = new RoofPigeons();
        x.feed(0x726f6f66, 0x73203120, 0x3220333b, BLANKS, BLANKS);
        Checks.due("teach()", x.teach(), 0);
        for (int tower = 0; tower < 3; tower++) {
            Checks.due("heightOf(" + tower + ")", x.heightOf(tower), tower + 1);
        }
        // the highest bit belongs to the first byte: 0x80 and 0xff are no blanks
        for (int number : new int[] {0x80202020, 0xff202020, Integer.MIN_VALUE, -1}) {
            RoofPigeons y = new RoofPigeons();
            y.feed(BLANKS, number, BLANKS, BLANKS, BLANKS);
            Checks.due("teach() of " + number, y.teach(), 1);
            Checks.due("errorAt() of " + number, y.errorAt(), 4);
        }
        RoofPigeons z = new RoofPigeons();
        z.feed(BLANKS, 0x202020ff, BLANKS, BLANKS, BLANKS);
        z.teach();
        Checks.due("errorAt() of the lowest byte", z.errorAt(), 7);
    }

    /** Each of some bytes of a feed, counted from 1, is one that is no token, among blanks. */
    private static void dueBytes(int first, int last) {
        for (int number = first; number <= last; number++) {
            int[] words = {BLANKS, BLANKS, BLANKS, BLANKS, BLANKS};
            int shift = 24 - 8 * ((number - 1) % 4);
            words[(number - 1) / 4] ^= ('!' ^ ' ') << shift;
            RoofPigeons x = new RoofPigeons();
            x.feed(words[0], words[1], words[2], words[3], words[4]);
            Checks.due("teach()", x.teach(), 1);
            Checks.due("errorAt() of byte " + number, x.errorAt(), number - 1);
            // and in the second feed likewise
            x.feed(BLANKS, BLANKS, BLANKS, BLANKS, BLANKS);
            x.feed(words[0], words[1], words[2], words[3], words[4]);
            x.teach();
            Checks.due("errorAt() of byte " + (20 + number), x.errorAt(), 19 + number);
        }
    }

    private static void feedReturns() {
        RoofPigeons x = new RoofPigeons();
        for (int bytes = 20; bytes <= 2000; bytes += 20) {
            Checks.due("feed", x.feed(0, -1, Integer.MIN_VALUE, Integer.MAX_VALUE, 1), bytes);
        }
        x.trim(1);
        Checks.due("feed behind trim(1)", x.feed(0, 0, 0, 0, 0), 21);
        x.trim(0);
        Checks.due("feed behind trim(0)", x.feed(0, 0, 0, 0, 0), 20);
    }

    private static void feedBeyond2000() {
        RoofPigeons x = new RoofPigeons();
        Checks.type(x, "roofs 5;" + Checks.times(1992, " "));
        Checks.noState("feed behind 2000 bytes", () -> x.feed(-1, -1, -1, -1, -1));
        Checks.due("trim(2000): nothing is changed", x.trim(2000), 2000);
        x.trim(1981);
        Checks.noState("feed behind 1981 bytes", () -> x.feed(-1, -1, -1, -1, -1));
        Checks.noArgument("trim(1982): nothing is changed", () -> x.trim(1982));
        x.trim(1980);
        Checks.due("feed behind 1980 bytes", x.feed(BLANKS, BLANKS, BLANKS, BLANKS, BLANKS), 2000);
        Checks.noState("feed behind 2000 bytes", () -> x.feed(BLANKS, BLANKS, BLANKS, BLANKS, BLANKS));
        Checks.due("teach(): nothing of it is on the tape", x.teach(), 0);
        Checks.due("heightOf(0)", x.heightOf(0), 5);
    }

    private static void firstBytesAreKept() {
        RoofPigeons x = new RoofPigeons();
        Checks.type(x, "roofs 1;roofs 2;xxxx");
        x.trim(8);
        Checks.due("teach()", x.teach(), 0);
        Checks.due("heightOf(0)", x.heightOf(0), 1);
        // what was cut off does not come back with the next feed
        Checks.type(x, "roofs 3;!!!!!!!!!!!!");
        x.trim(8);
        x.feed(BLANKS, BLANKS, BLANKS, BLANKS, BLANKS);
        Checks.due("teach()", x.teach(), 0);
        Checks.due("heightOf(0)", x.heightOf(0), 3);
    }

    private static void howManyAreKept() {
        for (int kept : new int[] {0, 1, 19, 20}) {
            RoofPigeons x = new RoofPigeons();
            x.feed(BLANKS, BLANKS, BLANKS, BLANKS, BLANKS);
            x.trim(kept);
            Checks.due("teach() of blanks", x.teach(), 1);
            Checks.due("errorAt(): the end of " + kept + " bytes", x.errorAt(), kept);
        }
        RoofPigeons x = new RoofPigeons();
        Checks.type(x, Checks.times(2000, " "));
        x.trim(1999);
        x.teach();
        Checks.due("errorAt(): the end of 1999 bytes", x.errorAt(), 1999);
    }

    private static void trimReturns() {
        RoofPigeons x = new RoofPigeons();
        Checks.due("trim(0) of nothing", x.trim(0), 0);
        Checks.type(x, Checks.times(2000, "x"));
        for (int kept : new int[] {2000, 1999, 20, 1, 0, 0}) {
            Checks.due("trim(" + kept + ")", x.trim(kept), kept);
        }
    }

    private static void trimBeyond() {
        RoofPigeons x = new RoofPigeons();
        for (int n : new int[] {-1, 1, Integer.MIN_VALUE, Integer.MAX_VALUE}) {
            Checks.noArgument("trim(" + n + ") of nothing", () -> x.trim(n));
        }
        Checks.due("trim(0) of nothing", x.trim(0), 0);
        Checks.type(x, "roofs 5;" + Checks.times(1992, " "));
        for (int n : new int[] {-1, 2001, Integer.MIN_VALUE, Integer.MAX_VALUE}) {
            Checks.noArgument("trim(" + n + ") of 2000", () -> x.trim(n));
        }
        Checks.due("trim(2000): nothing is changed", x.trim(2000), 2000);
        Checks.due("trim(8)", x.trim(8), 8);
        Checks.noArgument("trim(9) of 8", () -> x.trim(9));
        Checks.noArgument("trim(20) of 8", () -> x.trim(20));
        Checks.due("teach(): nothing is changed", x.teach(), 0);
        Checks.due("heightOf(0)", x.heightOf(0), 5);
        Checks.type(x, "roofs 5;");
        Checks.due("trim(0) of 8", x.trim(0), 0);
        Checks.noArgument("trim(1) of nothing", () -> x.trim(1));
    }

    private static void inThePlaceOfAll() {
        RoofPigeons x = Checks.taught(SIXTEEN + pigeonsAt(15) + Checks.times(16, "wear 15;"));
        Checks.due("teach() of the smallest", Checks.teach(x, "roofs 7;"), 0);
        Checks.due("towers()", x.towers(), 1);
        Checks.due("heightOf(0)", x.heightOf(0), 7);
        Checks.noIndex("heightOf(1)", () -> x.heightOf(1));
        Checks.due("pigeons()", x.pigeons(), 0);
        Checks.due("heardOn(0)", x.heardOn(0), 0);
        Checks.due("passDays(1): no orders", x.passDays(1), 0);
        Checks.due("teach() of the greatest", Checks.teach(x, SIXTEEN + pigeonsAt(15) + Checks.times(16, "wear 15;")), 0);
        Checks.due("towers()", x.towers(), 16);
        Checks.due("pigeons()", x.pigeons(), 8);
        Checks.due("passDays(1): all orders", x.passDays(1), 16);
    }

    private static void allBeginsAnew() {
        String text = "roofs 5 0 5;pigeon a at 1 loud 2;build 1 when day<2;";
        RoofPigeons x = Checks.taught(text);
        long digest = x.digest();
        x.passDays(30);
        x.wear(0);
        x.glide(0, true);
        Checks.due("teach() of the same", Checks.teach(x, text), 0);
        Checks.due("day()", x.day(), 0);
        Checks.due("ordersCarriedOut()", x.ordersCarriedOut(), 0);
        Checks.due("heightOf(0)", x.heightOf(0), 5);
        Checks.due("placeOf(0)", x.placeOf(0), 1);
        Checks.due("trapped()", x.trapped(), 5);
        Checks.due("digest()", x.digest(), digest);
        Checks.due("passDays(30)", x.passDays(30), 2);
    }

    private static void allStays() {
        String[] wrong = {
            "", "roofs 1", "roofs 1;pigeon a at 0 loud 1;pigeon a at 0 loud 1;build 0;", "roofs 1 2 3;build 0;hop b left;",
            "roofs" + Checks.times(17, " 1") + ";", "roofs 1;" + Checks.times(17, "build 0;"), "roofs 1 2 3 21;build 1;",
        };
        for (String text : wrong) {
            RoofPigeons x = Checks.taught("roofs 5 0 5;pigeon a at 2 loud 2;build 1 when day<2;");
            x.passDays(1);
            x.wear(0);
            long digest = x.digest();
            Checks.due("whether \"" + text + "\" has an error", Checks.teach(x, text) > 0, true);
            Checks.due("digest()", x.digest(), digest);
            Checks.due("day()", x.day(), 1);
            Checks.due("ordersCarriedOut()", x.ordersCarriedOut(), 1);
            Checks.due("heightOf(0)", x.heightOf(0), 4);
            Checks.due("placeOf(0)", x.placeOf(0), 2);
            Checks.noArgument("trim(1): the tape is empty", () -> x.trim(1));
            Checks.due("passDays(30): the order is as it was", x.passDays(30), 1);
            Checks.due("heightOf(1)", x.heightOf(1), 2);
        }
    }

    private static void teachReturns() {
        RoofPigeons x = new RoofPigeons();
        Checks.due("teach()", Checks.teach(x, "roofs 1;"), 0);
        Checks.due("teach()", Checks.teach(x, "roofs"), 1);
        Checks.due("teach()", Checks.teach(x, "roofs 1;pigeon a at 0 loud 1;pigeon a at 0 loud 1;"), 2);
        Checks.due("teach()", Checks.teach(x, "roofs 1;pigeon a at 0 loud 1;hop b left;"), 3);
        Checks.due("teach()", Checks.teach(x, "roofs" + Checks.times(17, " 1") + ";"), 4);
        Checks.due("teach()", Checks.teach(x, "roofs 21;"), 5);
        Checks.due("teach()", Checks.teach(x, "roofs 1;"), 0);
    }

    private static void errorOfTheLatest() {
        RoofPigeons x = new RoofPigeons();
        x.teach();
        Checks.due("errorAt() of nothing", x.errorAt(), 0);
        Checks.teach(x, "roofs 1;roofs");
        Checks.due("errorAt() of the latest", x.errorAt(), 8);
        Checks.type(x, Checks.times(2000, " "));
        Checks.due("errorAt() ahead of teach()", x.errorAt(), 8);
        x.teach();
        Checks.due("errorAt() of 2000 bytes", x.errorAt(), 2000);
        Checks.teach(x, Checks.times(1999, " ") + "!");
        Checks.due("errorAt() of the last byte", x.errorAt(), 1999);
        Checks.teach(x, "!");
        Checks.due("errorAt() of the first byte", x.errorAt(), 0);
        x.passDays(1);
        Checks.due("errorAt() a day on", x.errorAt(), 0);
    }

    private static void noErrorOfTheLatest() {
        RoofPigeons x = new RoofPigeons();
        Checks.due("errorAt() without teach()", x.errorAt(), -1);
        Checks.type(x, "!");
        Checks.due("errorAt() with a tape", x.errorAt(), -1);
        x.teach();
        Checks.teach(x, "roofs 1;");
        Checks.due("errorAt() of none", x.errorAt(), -1);
        Checks.teach(x, "roofs 21;");
        Checks.due("errorAt()", x.errorAt(), 6);
        Checks.teach(x, "roofs 20;");
        Checks.due("errorAt() of none behind one", x.errorAt(), -1);
    }

    // ---- promises 6 to 15

    private static void towersThereAre() {
        for (int count = 1; count <= 16; count++) {
            Checks.due("towers()", Checks.taught("roofs" + Checks.times(count, " 0") + ";").towers(), count);
        }
    }

    private static void pigeonsThereAre() {
        StringBuilder text = new StringBuilder("roofs 1;");
        for (int count = 0; count <= 8; count++) {
            Checks.due("pigeons()", Checks.taught(text.toString()).pigeons(), count);
            text.append("pigeon p").append(count).append(" at 0 loud 1;");
        }
    }

    private static void theDay() {
        RoofPigeons x = new RoofPigeons();
        Checks.due("day() at first", x.day(), 0);
        x.passDays(1);
        Checks.due("day()", x.day(), 1);
        for (int times = 1; times <= 200; times++) {
            x.passDays(30);
            Checks.due("day()", x.day(), 1 + 30 * times);
        }
        x.trappedAfter(30);
        x.build(0);
        Checks.due("day() behind what takes no day", x.day(), 6001);
    }

    private static void carriedOutInAll() {
        RoofPigeons x = Checks.taught("roofs 0;" + Checks.times(8, "build 0;wear 0;"));
        Checks.due("ordersCarriedOut() at first", x.ordersCarriedOut(), 0);
        for (int times = 1; times <= 200; times++) {
            x.passDays(30);
            Checks.due("ordersCarriedOut() of 16 a day", x.ordersCarriedOut(), 480 * times);
        }
        x.build(0);
        x.trappedAfter(30);
        Checks.due("ordersCarriedOut(): none by hand, none that would be", x.ordersCarriedOut(), 96000);
        RoofPigeons y = Checks.taught("roofs 0;wear 0;");
        y.passDays(30);
        Checks.due("ordersCarriedOut() of none", y.ordersCarriedOut(), 0);
    }

    private static void rainThatIsTrapped() {
        Checks.due("trapped() at first", new RoofPigeons().trapped(), 0);
        Checks.due("trapped() of two", Checks.taught("roofs 20 20;").trapped(), 0);
        Checks.due("trapped() of the least", Checks.taught("roofs 20 19 20;").trapped(), 1);
        RoofPigeons x = Checks.taught(WIDEST_POOL);
        Checks.due("trapped() of the most", x.trapped(), 280);
        x.wear(0);
        Checks.due("trapped() behind wear", x.trapped(), 266);
    }

    private static void towersThatAreWet() {
        Checks.due("wetTowers() at first", new RoofPigeons().wetTowers(), 0);
        Checks.due("wetTowers() of a plain", Checks.taught(PLAIN).wetTowers(), 0);
        Checks.due("wetTowers() of one", Checks.taught("roofs 2 1 2;").wetTowers(), 1);
        Checks.due("wetTowers() of 14", Checks.taught(WIDEST_POOL).wetTowers(), 14);
        Checks.due("wetTowers() of several pools", Checks.taught("roofs 2 1 2 1 1 2 0 2;").wetTowers(), 4);
    }

    private static void widestPool() {
        Checks.due("widestPool() at first", new RoofPigeons().widestPool(), 0);
        Checks.due("widestPool() of a plain", Checks.taught(PLAIN).widestPool(), 0);
        Checks.due("widestPool() of one", Checks.taught("roofs 2 1 2;").widestPool(), 1);
        Checks.due("widestPool() of 14", Checks.taught(WIDEST_POOL).widestPool(), 14);
        Checks.due("widestPool(): the first one", Checks.taught("roofs 2 1 1 1 2 1 2 1 1 2;").widestPool(), 3);
        Checks.due("widestPool(): the one between", Checks.taught("roofs 2 1 2 1 1 1 2 1 1 2;").widestPool(), 3);
        Checks.due("widestPool(): the last one", Checks.taught("roofs 2 1 2 1 1 2 1 1 1 2;").widestPool(), 3);
        Checks.due("widestPool() of two as wide", Checks.taught("roofs 2 1 1 2 1 1 2;").widestPool(), 2);
        Checks.due("widestPool(): wet ones of any height", Checks.taught("roofs 9 1 8 2 7 20;").widestPool(), 4);
    }

    private static void highest() {
        Checks.due("highest() of one", new RoofPigeons().highest(), 0);
        Checks.due("highest() of 16 as high", Checks.taught(PLAIN).highest(), 0);
        Checks.due("highest(): the last", Checks.taught(SIXTEEN).highest(), 15);
        Checks.due("highest(): the first", Checks.taught("roofs 20 19 18;").highest(), 0);
        Checks.due("highest(): of several", Checks.taught("roofs 19 20 0 20 20;").highest(), 1);
        Checks.due("highest(): of the ends", Checks.taught(WIDEST_POOL).highest(), 0);
    }

    private static void seenFromLeft() {
        Checks.due("seenFromLeft() of one", new RoofPigeons().seenFromLeft(), 1);
        Checks.due("seenFromLeft() of 16", Checks.taught(SIXTEEN).seenFromLeft(), 16);
        Checks.due("seenFromLeft() of a plain", Checks.taught(PLAIN).seenFromLeft(), 1);
        Checks.due("seenFromLeft() of the highest first", Checks.taught("roofs 20 0 20;").seenFromLeft(), 1);
        RoofPigeons x = Checks.taught("roofs 4 4;");
        x.build(1);
        Checks.due("seenFromLeft() of 1 higher", x.seenFromLeft(), 2);
    }

    private static void seenFromRight() {
        Checks.due("seenFromRight() of one", new RoofPigeons().seenFromRight(), 1);
        Checks.due("seenFromRight() of 16", Checks.taught("roofs 16 15 14 13 12 11 10 9 8 7 6 5 4 3 2 1;").seenFromRight(), 16);
        Checks.due("seenFromRight() of a plain", Checks.taught(PLAIN).seenFromRight(), 1);
        Checks.due("seenFromRight() of the highest last", Checks.taught(SIXTEEN).seenFromRight(), 1);
        RoofPigeons x = Checks.taught("roofs 4 4;");
        x.build(0);
        Checks.due("seenFromRight() of 1 higher", x.seenFromRight(), 2);
    }

    // ---- promises 16 to 22

    private static void heightOfFirstAndLast() {
        Checks.due("heightOf(0) of one", Checks.taught("roofs 9;").heightOf(0), 9);
        Checks.due("heightOf(0) of 16", Checks.taught(SIXTEEN).heightOf(0), 1);
        Checks.due("heightOf(15) of 16", Checks.taught(SIXTEEN).heightOf(15), 16);
    }

    private static void heights0To20() {
        for (int height = 0; height <= 20; height++) {
            Checks.due("heightOf(1)", Checks.taught("roofs 5 " + height + " 5;").heightOf(1), height);
        }
    }

    private static void isSeenOfFirstAndLast() {
        Checks.due("isSeenFromLeft(0) of one", new RoofPigeons().isSeenFromLeft(0), true);
        Checks.due("isSeenFromLeft(0) of 16", Checks.taught(PLAIN).isSeenFromLeft(0), true);
        Checks.due("isSeenFromLeft(15) of 16", Checks.taught(PLAIN).isSeenFromLeft(15), false);
        Checks.due("isSeenFromLeft(15) of 16", Checks.taught(SIXTEEN).isSeenFromLeft(15), true);
    }

    private static void isSeenAmongEquals() {
        RoofPigeons x = Checks.taught("roofs 0 0 1 1 0 1 2;");
        boolean[] want = {true, false, true, false, false, false, true};
        for (int tower = 0; tower < want.length; tower++) {
            Checks.due("isSeenFromLeft(" + tower + ")", x.isSeenFromLeft(tower), want[tower]);
        }
    }

    private static void nextTallerLeftOfFirstAndLast() {
        Checks.due("nextTallerLeft(0) of one", new RoofPigeons().nextTallerLeft(0), -1);
        RoofPigeons x = Checks.taught("roofs 20 2 2 2 2 2 2 2 2 2 2 2 2 2 2 19;");
        Checks.due("nextTallerLeft(0) of 16", x.nextTallerLeft(0), -1);
        Checks.due("nextTallerLeft(15) of 16", x.nextTallerLeft(15), 0);
    }

    private static void nextTallerLeft() {
        RoofPigeons x = Checks.taught("roofs 20 1 2 2 1 20;");
        int[] want = {-1, 0, 0, 0, 3, -1};
        for (int tower = 0; tower < want.length; tower++) {
            Checks.due("nextTallerLeft(" + tower + ")", x.nextTallerLeft(tower), want[tower]);
        }
    }

    private static void nextTallerRightOfFirstAndLast() {
        Checks.due("nextTallerRight(0) of one", new RoofPigeons().nextTallerRight(0), -1);
        RoofPigeons x = Checks.taught("roofs 19 2 2 2 2 2 2 2 2 2 2 2 2 2 2 20;");
        Checks.due("nextTallerRight(0) of 16", x.nextTallerRight(0), 15);
        Checks.due("nextTallerRight(15) of 16", x.nextTallerRight(15), -1);
    }

    private static void nextTallerRight() {
        RoofPigeons x = Checks.taught("roofs 20 1 2 2 1 20;");
        int[] want = {-1, 2, 5, 5, 5, -1};
        for (int tower = 0; tower < want.length; tower++) {
            Checks.due("nextTallerRight(" + tower + ")", x.nextTallerRight(tower), want[tower]);
        }
    }

    private static void waterOnFirstAndLast() {
        Checks.due("waterOn(0) of one", new RoofPigeons().waterOn(0), 0);
        RoofPigeons x = Checks.taught("roofs 0 20 0 0 0 0 0 0 0 0 0 0 0 0 20 0;");
        Checks.due("waterOn(0) of 16", x.waterOn(0), 0);
        Checks.due("waterOn(2) of 16", x.waterOn(2), 20);
        Checks.due("waterOn(13) of 16", x.waterOn(13), 20);
        Checks.due("waterOn(15) of 16", x.waterOn(15), 0);
    }

    private static void waterOn() {
        RoofPigeons x = Checks.taught("roofs 5 4 5 0 6 3;");
        int[] want = {0, 1, 0, 5, 0, 0};
        for (int tower = 0; tower < want.length; tower++) {
            Checks.due("waterOn(" + tower + ")", x.waterOn(tower), want[tower]);
        }
        Checks.due("waterOn(1) of the most", Checks.taught("roofs 20 0 20;").waterOn(1), 20);
    }

    private static void pigeonsOnFirstAndLast() {
        RoofPigeons x = Checks.taught(SIXTEEN + "pigeon a at 0 loud 1;pigeon b at 15 loud 1;pigeon c at 15 loud 1;");
        Checks.due("pigeonsOn(0)", x.pigeonsOn(0), 1);
        Checks.due("pigeonsOn(1)", x.pigeonsOn(1), 0);
        Checks.due("pigeonsOn(14)", x.pigeonsOn(14), 0);
        Checks.due("pigeonsOn(15)", x.pigeonsOn(15), 2);
        Checks.due("pigeonsOn(0) of one", Checks.taught("roofs 0;pigeon a at 0 loud 1;").pigeonsOn(0), 1);
    }

    private static void pigeons0To8On() {
        Checks.due("pigeonsOn(0) without any", new RoofPigeons().pigeonsOn(0), 0);
        RoofPigeons x = Checks.taught("roofs 1 2;" + pigeonsAt(0));
        for (int gone = 0; gone < 8; gone++) {
            Checks.due("pigeonsOn(0)", x.pigeonsOn(0), 8 - gone);
            Checks.due("pigeonsOn(1)", x.pigeonsOn(1), gone);
            x.hop(gone, true);
        }
        Checks.due("pigeonsOn(0)", x.pigeonsOn(0), 0);
        Checks.due("pigeonsOn(1)", x.pigeonsOn(1), 8);
    }

    private static void heardOnFirstAndLast() {
        Checks.due("heardOn(0) of one", Checks.taught("roofs 0;pigeon a at 0 loud 1;").heardOn(0), 1);
        RoofPigeons x = Checks.taught(PLAIN + "pigeon a at 0 loud 1;pigeon b at 15 loud 1;");
        Checks.due("heardOn(0) of 16", x.heardOn(0), 2);
        Checks.due("heardOn(15) of 16", x.heardOn(15), 2);
        // a is heard on 0 and 1, b everywhere
        RoofPigeons y = Checks.taught(SIXTEEN + "pigeon a at 0 loud 1;pigeon b at 15 loud 1;");
        Checks.due("heardOn(0) of 16", y.heardOn(0), 2);
        Checks.due("heardOn(1) of 16", y.heardOn(1), 2);
        Checks.due("heardOn(2) of 16", y.heardOn(2), 1);
        Checks.due("heardOn(15) of 16", y.heardOn(15), 1);
    }

    private static void pigeons0To8HeardOn() {
        Checks.due("heardOn(0) without any", new RoofPigeons().heardOn(0), 0);
        RoofPigeons x = Checks.taught("roofs 0 1 0;" + pigeonsAt(0));
        Checks.due("heardOn(0)", x.heardOn(0), 8);
        Checks.due("heardOn(1)", x.heardOn(1), 8);
        Checks.due("heardOn(2)", x.heardOn(2), 0);
    }

    // ---- promises 23 to 27

    private static void placeOfFirstAndLast() {
        RoofPigeons x = Checks.taught("roofs 1 2;pigeon a at 1 loud 1;");
        Checks.due("placeOf(0) of one", x.placeOf(0), 1);
        RoofPigeons y = Checks.taught(PLAIN + "pigeon a at 15 loud 1;" + pigeonsAt(3).replaceFirst("pigeon p0 at 3 loud 1;", ""));
        Checks.due("placeOf(0) of 8", y.placeOf(0), 15);
        Checks.due("placeOf(7) of 8", y.placeOf(7), 3);
    }

    private static void placeOf() {
        for (int tower = 0; tower < 16; tower++) {
            Checks.due("placeOf(0)", Checks.taught(PLAIN + "pigeon a at " + tower + " loud 1;").placeOf(0), tower);
        }
        RoofPigeons x = Checks.taught("roofs 0 1 0;pigeon a at 0 loud 1;");
        x.hop(0, true);
        Checks.due("placeOf(0) behind hop", x.placeOf(0), 1);
        x.glide(0, true);
        Checks.due("placeOf(0) behind glide", x.placeOf(0), 2);
        x.build(0);
        x.build(0);
        Checks.due("placeOf(0) behind build", x.placeOf(0), 2);
    }

    private static void loudnessOfFirstAndLast() {
        RoofPigeons x = Checks.taught("roofs 0;" + pigeonsAt(0));
        Checks.due("loudnessOf(0) of 8", x.loudnessOf(0), 1);
        Checks.due("loudnessOf(7) of 8", x.loudnessOf(7), 8);
        Checks.due("loudnessOf(0) of one", Checks.taught("roofs 0;pigeon a at 0 loud 9;").loudnessOf(0), 9);
    }

    private static void loudness1To9() {
        for (int loud = 1; loud <= 9; loud++) {
            Checks.due("loudnessOf(0)", Checks.taught("roofs 1 2;pigeon a at 1 loud " + loud + ";").loudnessOf(0), loud);
        }
    }

    private static void hearsOfFirstAndLast() {
        // p0 to p6 are heard on 0 and 1, p7 everywhere
        RoofPigeons x = Checks.taught("roofs 1 2 3;" + pigeonsAt(0).replace("p7 at 0", "p7 at 2"));
        Checks.due("hears(0, 7)", x.hears(0, 7), true);
        Checks.due("hears(7, 0)", x.hears(7, 0), false);
        Checks.due("hears(0, 6)", x.hears(0, 6), true);
        Checks.due("hears(6, 0)", x.hears(6, 0), true);
        RoofPigeons y = Checks.taught("roofs 1;" + pigeonsAt(0));
        Checks.due("hears(7, 0) on one tower", y.hears(7, 0), true);
        Checks.due("hears(0, 7) on one tower", y.hears(0, 7), true);
        Checks.due("hears(0, 0) of one", Checks.taught("roofs 0;pigeon a at 0 loud 1;").hears(0, 0), false);
    }

    private static void hearsAnother() {
        RoofPigeons x = Checks.taught("roofs 0;" + pigeonsAt(0));
        for (int other = 0; other < 8; other++) {
            Checks.due("hears(0, " + other + ")", x.hears(0, other), other != 0);
            Checks.due("hears(7, " + other + ")", x.hears(7, other), other != 7);
        }
    }

    private static void hears() {
        // b and d are heard up to the tower of 9 and on it, a and e are not
        RoofPigeons x = Checks.taught("roofs 1 2 9 8 1;pigeon a at 0 loud 1;pigeon b at 1 loud 1;pigeon c at 2 loud 1;pigeon d at 3 loud 1;pigeon e at 4 loud 1;");
        String[] want = {".bc..", "a.c..", ".b.d.", "..c.e", "..cd."};
        for (int pigeon = 0; pigeon < 5; pigeon++) {
            for (int other = 0; other < 5; other++) {
                Checks.due("hears(" + pigeon + ", " + other + ")", x.hears(pigeon, other), want[pigeon].charAt(other) != '.');
            }
        }
    }

    private static void noiseAtFirstAndLast() {
        RoofPigeons x = Checks.taught("roofs 0;" + pigeonsAt(0));
        Checks.due("noiseAt(0) of 8", x.noiseAt(0), 35);
        Checks.due("noiseAt(7) of 8", x.noiseAt(7), 28);
        Checks.due("noiseAt(0) of one", Checks.taught("roofs 0;pigeon a at 0 loud 9;").noiseAt(0), 0);
    }

    private static void noise0To63() {
        RoofPigeons x = Checks.taught("roofs 0;" + pigeonsAt(0).replaceAll("loud .", "loud 9"));
        for (int pigeon = 0; pigeon < 8; pigeon++) {
            Checks.due("noiseAt(" + pigeon + ")", x.noiseAt(pigeon), 63);
        }
        RoofPigeons y = Checks.taught("roofs 0 1 0;pigeon a at 0 loud 9;pigeon b at 2 loud 9;");
        Checks.due("noiseAt(0): none is heard", y.noiseAt(0), 0);
        Checks.due("noiseAt(1): none is heard", y.noiseAt(1), 0);
        y.hop(1, false);
        Checks.due("noiseAt(0)", y.noiseAt(0), 9);
        Checks.due("noiseAt(1)", y.noiseAt(1), 9);
    }

    private static void quietest() {
        Checks.due("quietest() at first", new RoofPigeons().quietest(), -1);
        Checks.due("quietest() without any", Checks.taught(SIXTEEN).quietest(), -1);
        Checks.due("quietest() of one", Checks.taught("roofs 0;pigeon a at 0 loud 9;").quietest(), 0);
        // the loudest hears least, here the last one
        Checks.due("quietest() of 8", Checks.taught("roofs 0;" + pigeonsAt(0)).quietest(), 7);
        Checks.due("quietest() of 8 alike", Checks.taught("roofs 0;" + pigeonsAt(0).replaceAll("loud .", "loud 9")).quietest(), 0);
        Checks.due("quietest() of several", Checks.taught("roofs 0;pigeon a at 0 loud 1;pigeon b at 0 loud 2;pigeon c at 0 loud 2;").quietest(), 1);
        Checks.due("quietest() of no noise", Checks.taught("roofs 0 1 0;pigeon a at 0 loud 1;pigeon b at 2 loud 9;").quietest(), 0);
        Checks.due("quietest(): 0 is less than 1", Checks.taught("roofs 0 1 0;pigeon a at 0 loud 1;pigeon b at 0 loud 1;pigeon c at 2 loud 9;")
                .quietest(), 2);
    }
}
