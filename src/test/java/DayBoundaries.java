import java.math.BigInteger;
import java.util.ArrayList;
import java.util.Arrays;
import java.util.List;

/** The boundary cases of promises 28 to 39, a test for each sentence. */
final class DayBoundaries {
    private static final String PLAIN = "roofs 4 4 4 4 4 4 4 4 4 4 4 4 4 4 4 4;";
    private static final String SIXTEEN = "roofs 1 2 3 4 5 6 7 8 9 10 11 12 13 14 15 16;";
    private static final String WIDEST_POOL = "roofs 20 0 0 0 0 0 0 0 0 0 0 0 0 0 0 20;";

    private DayBoundaries() {
    }

    static void run() {
        moves();
        heights();
        days();
        whatWouldBe();
        meanAndDigest();
    }

    private static void moves() {
        Sentences.test("Promise 28", "A pigeon hops.", DayBoundaries::oneHopsAlone);
        Sentences.test("Promise 28", "`pigeon`: the pigeon", DayBoundaries::hopOfFirstAndLast);
        Sentences.test("Promise 28", "`isRight`: whether to the right, otherwise to the left", DayBoundaries::hopToEitherSide);
        Sentences.test("Promise 28", "Returns the tower on which it sits then.", DayBoundaries::hopReturns);
        CallBoundaries.noSuchPigeon("Promise 28", "hop", (x, pigeon) -> x.hop(pigeon, true));
        Sentences.test("Promise 28", "Throws `IllegalStateException` if it cannot be done", DayBoundaries::hopThatCannotBeDone);
        Sentences.test("Promise 29", "A pigeon glides.", DayBoundaries::oneGlidesAlone);
        Sentences.test("Promise 29", "`pigeon`: the pigeon", DayBoundaries::glideOfFirstAndLast);
        Sentences.test("Promise 29", "`isRight`: whether to the right, otherwise to the left", DayBoundaries::glideToEitherSide);
        Sentences.test("Promise 29", "Returns the tower on which it sits then.", DayBoundaries::glideReturns);
        CallBoundaries.noSuchPigeon("Promise 29", "glide", (x, pigeon) -> x.glide(pigeon, false));
        Sentences.test("Promise 29", "Throws `IllegalStateException` if it cannot be done", DayBoundaries::glideThatCannotBeDone);
    }

    private static void heights() {
        Sentences.test("Promise 30", "Builds a tower.", DayBoundaries::oneIsBuiltAlone);
        Sentences.test("Promise 30", "`tower`: the tower", DayBoundaries::buildOfFirstAndLast);
        Sentences.test("Promise 30", "Returns what is trapped then.", DayBoundaries::buildReturns);
        CallBoundaries.noSuchTower("Promise 30", "build", RoofPigeons::build);
        Sentences.test("Promise 30", "Throws `IllegalStateException` if it cannot be done", DayBoundaries::buildThatCannotBeDone);
        Sentences.test("Promise 31", "Wears a tower.", DayBoundaries::oneIsWornAlone);
        Sentences.test("Promise 31", "`tower`: the tower", DayBoundaries::wearOfFirstAndLast);
        Sentences.test("Promise 31", "Returns what is trapped then.", DayBoundaries::wearReturns);
        CallBoundaries.noSuchTower("Promise 31", "wear", RoofPigeons::wear);
        Sentences.test("Promise 31", "Throws `IllegalStateException` if it cannot be done", DayBoundaries::wearThatCannotBeDone);
    }

    private static void days() {
        Sentences.test("Promise 32", "Lets days go by.", DayBoundaries::daysGoBy);
        Sentences.test("Promise 32", "`days`: how many", DayBoundaries::passDays1And30);
        Sentences.test("Promise 32", "Returns how many orders are carried out in them.", DayBoundaries::passDaysReturns);
        Sentences.test("Promise 32", "Throws `IllegalArgumentException` if days is not 1 to 30", DayBoundaries::passDays0And31);
        Sentences.test("Promise 33", "`days`: how many days", DayBoundaries::trappedAfter1And30);
        Sentences.test("Promise 33", "Returns what is trapped behind them, if nothing is done by hand (nothing is changed).",
                DayBoundaries::trappedAfterReturns);
        Sentences.test("Promise 33", "Throws `IllegalArgumentException` if days is not 1 to 30", DayBoundaries::trappedAfter0And31);
        Sentences.test("Promise 34", "`pigeon`: a pigeon", DayBoundaries::daysUntilHeardOfFirstAndLast);
        Sentences.test("Promise 34", "`other`: another one, or the same", DayBoundaries::daysUntilHeardOfTheSame);
        Sentences.test("Promise 34", "Returns behind how many days the first one hears the other one, if nothing is done by hand:",
                DayBoundaries::daysUntilHeardReturns);
        Sentences.test("Promise 34", "0 if so now,", DayBoundaries::heardNow);
        Sentences.test("Promise 34", "at most 40;", DayBoundaries::heardBehind40);
        Sentences.test("Promise 34", "-1 if not by then (nothing is changed).", DayBoundaries::notHeardBy40);
        CallBoundaries.noSuchPigeonOfTwo("Promise 34", "daysUntilHeard", RoofPigeons::daysUntilHeard);
    }

    private static void whatWouldBe() {
        Sentences.test("Promise 35", "`tower`: a tower", DayBoundaries::trappedWithFirstAndLast);
        Sentences.test("Promise 35", "`height`: a height", DayBoundaries::trappedWith0And20);
        Sentences.test("Promise 35", "Returns what would be trapped, if the tower had this height (nothing is changed).",
                DayBoundaries::trappedWithReturns);
        CallBoundaries.noSuchTower("Promise 35", "trappedWith", (x, tower) -> x.trappedWith(tower, 20));
        Sentences.test("Promise 35", "Throws `IllegalArgumentException` if height is not 0 to 20", DayBoundaries::trappedWithLessThan0Or21);
        Sentences.test("Promise 36", "Returns the tower that had best be built, of those that can be, so that the most is trapped then,",
                DayBoundaries::bestToBuild);
        Sentences.test("Promise 36", "of several the smallest number;", DayBoundaries::bestOfSeveral);
        Sentences.test("Promise 36", "-1 if none can be (nothing is changed).", DayBoundaries::bestOfNone);
        Sentences.test("Promise 37", "`pigeon`: a pigeon", DayBoundaries::quietestTowerOfFirstAndLast);
        Sentences.test("Promise 37", "Returns the tower on which it would have the least noise, if it sat there,", DayBoundaries::quietestTower);
        Sentences.test("Promise 37", "of several the smallest number (nothing is changed).", DayBoundaries::quietestOfSeveral);
        CallBoundaries.noSuchPigeon("Promise 37", "quietestTower", RoofPigeons::quietestTower);
    }

    private static void meanAndDigest() {
        Sentences.test("Promise 38", "Returns the mean height of towers.", DayBoundaries::meanHeight);
        Sentences.free("Promise 39", "Computes a checksum.");
        Sentences.test("Promise 39", "A number d starts with 1061;", DayBoundaries::digestOfTheFirst);
        Sentences.test("Promise 39", "for each of the following numbers x, d becomes d * 31 + x, which wraps around as a 64-bit integer:",
                DayBoundaries::digestWraps);
        Sentences.test("Promise 39", "towers(), pigeons(), day(), ordersCarriedOut(), trapped(), wetTowers(), widestPool(), highest(),"
                + " seenFromLeft(), seenFromRight(), quietest(), bestToBuild();", DayBoundaries::digestOfTheSkyline);
        Sentences.test("Promise 39", "for each tower heightOf(), nextTallerLeft(), nextTallerRight(), waterOn(), pigeonsOn(), heardOn();",
                DayBoundaries::digestOfTowers);
        Sentences.test("Promise 39", "for each pigeon placeOf(), loudnessOf(), noiseAt(), quietestTower() (all in their order).",
                DayBoundaries::digestOfPigeons);
        Sentences.test("Promise 39", "Returns d.", DayBoundaries::digestReturns);
    }

    // ---- promises 28 and 29

    private static void oneHopsAlone() {
        RoofPigeons x = Checks.taught("roofs 1 2;" + CallBoundaries.pigeonsAt(0) + "hop p3 right;");
        x.hop(2, true);
        for (int pigeon = 0; pigeon < 8; pigeon++) {
            Checks.due("placeOf(" + pigeon + ")", x.placeOf(pigeon), pigeon == 2 ? 1 : 0);
        }
        Checks.due("day()", x.day(), 0);
        Checks.due("ordersCarriedOut()", x.ordersCarriedOut(), 0);
        // it may hop from a wet tower, and to one: none flies ahead of the end of a day
        RoofPigeons y = Checks.taught("roofs 9 1 2 9;pigeon a at 1 loud 1;");
        Checks.due("hop(0, right) from a wet tower", y.hop(0, true), 2);
        Checks.due("placeOf(0)", y.placeOf(0), 2);
    }

    private static void hopOfFirstAndLast() {
        Checks.due("hop(0, right) of one", Checks.taught("roofs 1 2;pigeon a at 0 loud 1;").hop(0, true), 1);
        RoofPigeons x = Checks.taught("roofs 1 2;" + CallBoundaries.pigeonsAt(0));
        Checks.due("hop(0, right) of 8", x.hop(0, true), 1);
        Checks.due("hop(7, right) of 8", x.hop(7, true), 1);
        Checks.due("pigeonsOn(1)", x.pigeonsOn(1), 2);
    }

    private static void hopToEitherSide() {
        RoofPigeons x = Checks.taught("roofs 3 0 1 3;pigeon a at 1 loud 1;pigeon b at 1 loud 1;");
        Checks.due("hop(0, left)", x.hop(0, false), 0);
        Checks.due("hop(1, right)", x.hop(1, true), 2);
    }

    private static void hopReturns() {
        RoofPigeons x = Checks.taught("roofs 20 1 1 1 1 1 1 1 1 1 1 1 1 1 1 19;pigeon a at 7 loud 1;pigeon b at 7 loud 1;");
        Checks.due("hop(0, left) to the first", x.hop(0, false), 0);
        Checks.due("placeOf(0)", x.placeOf(0), 0);
        Checks.due("hop(1, right) to the last", x.hop(1, true), 15);
        Checks.due("placeOf(1)", x.placeOf(1), 15);
        Checks.due("hop(1, left) from the last to the first", x.hop(1, false), 0);
    }

    private static void hopThatCannotBeDone() {
        RoofPigeons x = Checks.taught("roofs 4 4 1 4;pigeon a at 0 loud 1;pigeon b at 3 loud 1;pigeon c at 1 loud 1;");
        long digest = x.digest();
        for (int pigeon = 0; pigeon < 3; pigeon++) {
            int hopping = pigeon;
            Checks.noState("hop(" + pigeon + ", left)", () -> x.hop(hopping, false));
            Checks.noState("hop(" + pigeon + ", right)", () -> x.hop(hopping, true));
        }
        Checks.due("digest(): nothing is changed", x.digest(), digest);
        x.build(1);
        Checks.due("hop(0, right) to 1 higher", x.hop(0, true), 1);
    }

    private static void oneGlidesAlone() {
        RoofPigeons x = Checks.taught("roofs 2 1;" + CallBoundaries.pigeonsAt(0) + "glide p3 right;");
        x.glide(5, true);
        for (int pigeon = 0; pigeon < 8; pigeon++) {
            Checks.due("placeOf(" + pigeon + ")", x.placeOf(pigeon), pigeon == 5 ? 1 : 0);
        }
        Checks.due("day()", x.day(), 0);
        Checks.due("ordersCarriedOut()", x.ordersCarriedOut(), 0);
        // to a wet tower as well
        RoofPigeons y = Checks.taught("roofs 9 1 9;pigeon a at 0 loud 1;");
        Checks.due("glide(0, right) to a wet tower", y.glide(0, true), 1);
        Checks.due("placeOf(0)", y.placeOf(0), 1);
    }

    private static void glideOfFirstAndLast() {
        Checks.due("glide(0, right) of one", Checks.taught("roofs 2 1;pigeon a at 0 loud 1;").glide(0, true), 1);
        RoofPigeons x = Checks.taught("roofs 2 1;" + CallBoundaries.pigeonsAt(0));
        Checks.due("glide(0, right) of 8", x.glide(0, true), 1);
        Checks.due("glide(7, right) of 8", x.glide(7, true), 1);
        Checks.due("pigeonsOn(1)", x.pigeonsOn(1), 2);
    }

    private static void glideToEitherSide() {
        RoofPigeons x = Checks.taught("roofs 0 1 0;pigeon a at 1 loud 1;pigeon b at 1 loud 1;");
        Checks.due("glide(0, left)", x.glide(0, false), 0);
        Checks.due("glide(1, right)", x.glide(1, true), 2);
    }

    private static void glideReturns() {
        RoofPigeons x = Checks.taught("roofs 0 1 2 3 4 5 6 20 7 6 5 4 3 2 1 0;pigeon a at 7 loud 1;pigeon b at 7 loud 1;");
        for (int place = 6; place >= 0; place--) {
            Checks.due("glide(0, left)", x.glide(0, false), place);
            Checks.due("placeOf(0)", x.placeOf(0), place);
        }
        for (int place = 8; place <= 15; place++) {
            Checks.due("glide(1, right)", x.glide(1, true), place);
            Checks.due("placeOf(1)", x.placeOf(1), place);
        }
    }

    private static void glideThatCannotBeDone() {
        // to both sides: none, one as high, or a higher one
        RoofPigeons x = Checks.taught("roofs 0 0 1 0 0 1;pigeon a at 0 loud 1;pigeon b at 4 loud 1;pigeon c at 3 loud 1;");
        long digest = x.digest();
        Checks.noState("glide(0, left)", () -> x.glide(0, false));
        Checks.noState("glide(0, right)", () -> x.glide(0, true));
        Checks.noState("glide(1, left)", () -> x.glide(1, false));
        Checks.noState("glide(1, right)", () -> x.glide(1, true));
        Checks.noState("glide(2, left)", () -> x.glide(2, false));
        Checks.noState("glide(2, right)", () -> x.glide(2, true));
        RoofPigeons last = Checks.taught("roofs 0 1;pigeon a at 1 loud 1;");
        Checks.noState("glide(0, right) from the last", () -> last.glide(0, true));
        Checks.due("placeOf(0)", last.placeOf(0), 1);
        Checks.due("digest(): nothing is changed", x.digest(), digest);
        x.build(0);
        Checks.due("glide(0, right) to 1 less high", x.glide(0, true), 1);
    }

    // ---- promises 30 and 31

    private static void dueHeights(RoofPigeons x, int... want) {
        for (int tower = 0; tower < want.length; tower++) {
            Checks.due("heightOf(" + tower + ")", x.heightOf(tower), want[tower]);
        }
    }

    private static void oneIsBuiltAlone() {
        RoofPigeons x = Checks.taught("roofs 0 19 5;build 2;");
        x.build(0);
        x.build(1);
        dueHeights(x, 1, 20, 5);
        Checks.due("day()", x.day(), 0);
        Checks.due("ordersCarriedOut()", x.ordersCarriedOut(), 0);
    }

    private static void buildOfFirstAndLast() {
        RoofPigeons one = new RoofPigeons();
        one.build(0);
        dueHeights(one, 1);
        RoofPigeons x = Checks.taught(PLAIN);
        x.build(0);
        x.build(15);
        dueHeights(x, 5, 4, 4, 4, 4, 4, 4, 4, 4, 4, 4, 4, 4, 4, 4, 5);
    }

    private static void buildReturns() {
        Checks.due("build(0) of one", new RoofPigeons().build(0), 0);
        Checks.due("build(0) of a pool of 280", Checks.taught("roofs 19 0 0 0 0 0 0 0 0 0 0 0 0 0 0 20;").build(0), 280);
        RoofPigeons x = Checks.taught("roofs 1 1 1;");
        Checks.due("build(0)", x.build(0), 0);
        Checks.due("build(2)", x.build(2), 1);
        Checks.due("build(1)", x.build(1), 0);
        Checks.due("trapped()", x.trapped(), 0);
    }

    private static void buildThatCannotBeDone() {
        RoofPigeons x = Checks.taught("roofs 20 19 20;pigeon a at 1 loud 1;");
        long digest = x.digest();
        Checks.noState("build(0)", () -> x.build(0));
        Checks.noState("build(2)", () -> x.build(2));
        Checks.due("digest(): nothing is changed", x.digest(), digest);
        Checks.due("build(1)", x.build(1), 0);
        Checks.noState("build(1)", () -> x.build(1));
        dueHeights(x, 20, 20, 20);
        Checks.due("trapped()", x.trapped(), 0);
    }

    private static void oneIsWornAlone() {
        RoofPigeons x = Checks.taught("roofs 1 20 5;wear 2;");
        x.wear(0);
        x.wear(1);
        dueHeights(x, 0, 19, 5);
        Checks.due("day()", x.day(), 0);
        Checks.due("ordersCarriedOut()", x.ordersCarriedOut(), 0);
    }

    private static void wearOfFirstAndLast() {
        RoofPigeons one = Checks.taught("roofs 1;");
        one.wear(0);
        dueHeights(one, 0);
        RoofPigeons x = Checks.taught(PLAIN);
        x.wear(0);
        x.wear(15);
        dueHeights(x, 3, 4, 4, 4, 4, 4, 4, 4, 4, 4, 4, 4, 4, 4, 4, 3);
    }

    private static void wearReturns() {
        Checks.due("wear(0) of one", Checks.taught("roofs 20;").wear(0), 0);
        Checks.due("wear(7) of a pool of 279", Checks.taught("roofs 20 0 0 0 0 0 0 1 0 0 0 0 0 0 0 20;").wear(7), 280);
        RoofPigeons x = Checks.taught("roofs 2 2 2;");
        Checks.due("wear(1)", x.wear(1), 1);
        Checks.due("wear(0)", x.wear(0), 0);
        Checks.due("trapped()", x.trapped(), 0);
    }

    private static void wearThatCannotBeDone() {
        RoofPigeons x = Checks.taught("roofs 0 1 0;pigeon a at 1 loud 1;");
        long digest = x.digest();
        Checks.noState("wear(0)", () -> x.wear(0));
        Checks.noState("wear(2)", () -> x.wear(2));
        Checks.due("digest(): nothing is changed", x.digest(), digest);
        Checks.due("wear(1)", x.wear(1), 0);
        Checks.noState("wear(1)", () -> x.wear(1));
        dueHeights(x, 0, 0, 0);
    }

    // ---- promises 32 to 34

    private static void daysGoBy() {
        RoofPigeons x = Checks.taught("roofs 5 1 5;pigeon a at 1 loud 1;build 1 when day<29;");
        x.passDays(1);
        dueHeights(x, 5, 2, 5);
        Checks.due("placeOf(0): a flight", x.placeOf(0), 0);
        Checks.due("day()", x.day(), 1);
        x.passDays(30);
        dueHeights(x, 5, 20, 5);
        Checks.due("day()", x.day(), 31);
    }

    private static void passDays1And30() {
        for (int days = 1; days <= 30; days++) {
            RoofPigeons x = new RoofPigeons();
            x.passDays(days);
            Checks.due("day()", x.day(), days);
            x.passDays(days);
            Checks.due("day()", x.day(), 2 * days);
        }
    }

    private static void passDaysReturns() {
        Checks.due("passDays(30) without orders", new RoofPigeons().passDays(30), 0);
        RoofPigeons x = Checks.taught("roofs 0;" + Checks.times(8, "build 0;wear 0;"));
        Checks.due("passDays(1) of the most", x.passDays(1), 16);
        Checks.due("passDays(30) of the most", x.passDays(30), 480);
        Checks.due("passDays(30): in them, not in all", x.passDays(30), 480);
        RoofPigeons y = Checks.taught("roofs 10;build 0 when day=1;build 0 when day=30;build 0 when day=31;");
        Checks.due("passDays(30) of the days 0 to 29", y.passDays(30), 1);
        Checks.due("passDays(1) of day 30", y.passDays(1), 1);
        Checks.due("passDays(2) of the days 31 and 32", y.passDays(2), 1);
        Checks.due("passDays(30)", y.passDays(30), 0);
    }

    private static final int[] NOT_1_TO_30 = {0, 31, -1, 32, Integer.MIN_VALUE, Integer.MAX_VALUE};

    private static void passDays0And31() {
        RoofPigeons x = Checks.taught("roofs 5 1 5;pigeon a at 1 loud 1;build 1;");
        long digest = x.digest();
        for (int days : NOT_1_TO_30) {
            Checks.noArgument("passDays(" + days + ")", () -> x.passDays(days));
        }
        Checks.due("digest(): nothing is changed", x.digest(), digest);
        Checks.due("passDays(1)", x.passDays(1), 1);
        Checks.due("passDays(30)", x.passDays(30), 18);
    }

    private static void trappedAfter1And30() {
        // 1 less on each day
        RoofPigeons x = Checks.taught("roofs 20 0 0 0 20;build 1 when day<20;build 2 when day>=20 and day<29;build 3 when day=29;");
        for (int days = 1; days <= 30; days++) {
            Checks.due("trappedAfter(" + days + ")", x.trappedAfter(days), 60 - days);
        }
    }

    private static void trappedAfterReturns() {
        RoofPigeons x = Checks.taught("roofs 5 1 5;pigeon a at 1 loud 1;build 1 when place of a=1;wear 0 when place of a=0;");
        long digest = x.digest();
        // on day 0 tower 1 is built, and a flies to 0, which is worn from day 1 on
        int[] want = {3, 2, 1, 0, 0, 0};
        for (int days = 1; days <= want.length; days++) {
            Checks.due("trappedAfter(" + days + ")", x.trappedAfter(days), want[days - 1]);
            Checks.due("digest(): nothing is changed", x.digest(), digest);
        }
        x.passDays(1);
        Checks.due("trappedAfter(1) a day on", x.trappedAfter(1), 2);
        x.build(0);
        Checks.due("trappedAfter(1) behind build(0)", x.trappedAfter(1), 3);
        // what pigeons hear counts there as well, that of the last of eight too
        RoofPigeons y = Checks.taught("roofs 2 1 2;" + CallBoundaries.pigeonsAt(0) + "build 0 when noise of p0=35;build 2 when noise of p7=28;");
        Checks.due("trappedAfter(3) by their noise", y.trappedAfter(3), 4);
        Checks.due("trappedAfter(30) without orders", Checks.taught(WIDEST_POOL).trappedAfter(30), 280);
    }

    private static void trappedAfter0And31() {
        RoofPigeons x = Checks.taught("roofs 5 1 5;pigeon a at 1 loud 1;build 1;");
        long digest = x.digest();
        for (int days : NOT_1_TO_30) {
            Checks.noArgument("trappedAfter(" + days + ")", () -> x.trappedAfter(days));
        }
        Checks.due("digest(): nothing is changed", x.digest(), digest);
        Checks.due("trappedAfter(1)", x.trappedAfter(1), 3);
        Checks.due("trappedAfter(30)", x.trappedAfter(30), 0);
    }

    /** a on 0 and b on 2, each heard on its own tower and on 1, until b hops to 1 in the order of the test. */
    private static RoofPigeons hopping(String test) {
        return Checks.taught("roofs 1 5 1;pigeon a at 0 loud 1;pigeon b at 2 loud 1;hop b left when " + test + ";");
    }

    private static void daysUntilHeardOfFirstAndLast() {
        RoofPigeons x = Checks.taught("roofs 1 5 1;" + CallBoundaries.pigeonsAt(0).replace("p7 at 0", "p7 at 2") + "hop p7 left when day=3;");
        Checks.due("daysUntilHeard(0, 7)", x.daysUntilHeard(0, 7), 4);
        Checks.due("daysUntilHeard(7, 0)", x.daysUntilHeard(7, 0), 4);
        Checks.due("daysUntilHeard(0, 1)", x.daysUntilHeard(0, 1), 0);
        Checks.due("daysUntilHeard(6, 5)", x.daysUntilHeard(6, 5), 0);
    }

    private static void daysUntilHeardOfTheSame() {
        Checks.due("daysUntilHeard(0, 0) of one", Checks.taught("roofs 1;pigeon a at 0 loud 1;").daysUntilHeard(0, 0), -1);
        RoofPigeons x = hopping("day=5");
        Checks.due("daysUntilHeard(0, 0)", x.daysUntilHeard(0, 0), -1);
        Checks.due("daysUntilHeard(1, 1)", x.daysUntilHeard(1, 1), -1);
        Checks.due("daysUntilHeard(0, 1)", x.daysUntilHeard(0, 1), 6);
        Checks.due("daysUntilHeard(1, 0)", x.daysUntilHeard(1, 0), 6);
    }

    private static void daysUntilHeardReturns() {
        RoofPigeons x = hopping("day=12");
        Checks.due("daysUntilHeard(0, 1)", x.daysUntilHeard(0, 1), 13);
        x.passDays(12);
        Checks.due("daysUntilHeard(0, 1) 12 days on", x.daysUntilHeard(0, 1), 1);
        Checks.due("daysUntilHeard(0, 1) again", x.daysUntilHeard(0, 1), 1);
        // on day 0 b flies from a wet tower to the first one, and is heard everywhere
        RoofPigeons y = Checks.taught("roofs 9 1 5 0;pigeon a at 0 loud 1;pigeon b at 1 loud 1;pigeon c at 3 loud 1;");
        Checks.due("daysUntilHeard(2, 1)", y.daysUntilHeard(2, 1), 1);
        // c is never heard on 0
        Checks.due("daysUntilHeard(0, 2)", y.daysUntilHeard(0, 2), -1);
        // the first one hears, the other one is heard
        RoofPigeons z = Checks.taught("roofs 0 1 9;pigeon a at 0 loud 1;pigeon b at 2 loud 1;");
        Checks.due("daysUntilHeard(0, 1)", z.daysUntilHeard(0, 1), 0);
        Checks.due("daysUntilHeard(1, 0)", z.daysUntilHeard(1, 0), -1);
    }

    private static void heardNow() {
        RoofPigeons x = Checks.taught("roofs 1 5 1;pigeon a at 0 loud 1;pigeon b at 1 loud 1;glide b right;");
        Checks.due("daysUntilHeard(0, 1): not from tomorrow on", x.daysUntilHeard(0, 1), 0);
        x.passDays(1);
        Checks.due("daysUntilHeard(0, 1) a day on", x.daysUntilHeard(0, 1), -1);
        RoofPigeons y = hopping("day=0");
        Checks.due("daysUntilHeard(0, 1)", y.daysUntilHeard(0, 1), 1);
        y.hop(1, false);
        Checks.due("daysUntilHeard(0, 1) behind a hop by hand", y.daysUntilHeard(0, 1), 0);
    }

    private static void heardBehind40() {
        RoofPigeons x = hopping("day=39");
        long digest = x.digest();
        Checks.due("daysUntilHeard(0, 1)", x.daysUntilHeard(0, 1), 40);
        Checks.due("daysUntilHeard(1, 0)", x.daysUntilHeard(1, 0), 40);
        Checks.due("digest(): nothing is changed", x.digest(), digest);
        Checks.due("daysUntilHeard(0, 1)", hopping("day=38").daysUntilHeard(0, 1), 39);
        // 40 days from now on, not from the first one
        RoofPigeons y = hopping("day=69");
        y.passDays(30);
        Checks.due("daysUntilHeard(0, 1) 30 days on", y.daysUntilHeard(0, 1), 40);
    }

    private static void notHeardBy40() {
        RoofPigeons x = hopping("day=40");
        long digest = x.digest();
        Checks.due("daysUntilHeard(0, 1): behind 41 days", x.daysUntilHeard(0, 1), -1);
        Checks.due("digest(): nothing is changed", x.digest(), digest);
        x.passDays(1);
        Checks.due("daysUntilHeard(0, 1) a day on", x.daysUntilHeard(0, 1), 40);
        Checks.due("daysUntilHeard(0, 1): never", hopping("1=2").daysUntilHeard(0, 1), -1);
    }

    // ---- promises 35 to 37

    private static void trappedWithFirstAndLast() {
        Checks.due("trappedWith(0, 20) of one", new RoofPigeons().trappedWith(0, 20), 0);
        RoofPigeons x = Checks.taught("roofs 1 0 0 0 0 0 0 0 0 0 0 0 0 0 0 2;");
        Checks.due("trappedWith(0, 2)", x.trappedWith(0, 2), 28);
        Checks.due("trappedWith(15, 0)", x.trappedWith(15, 0), 0);
        Checks.due("trappedWith(15, 1)", x.trappedWith(15, 1), 14);
    }

    private static void trappedWith0And20() {
        RoofPigeons x = Checks.taught(WIDEST_POOL);
        Checks.due("trappedWith(0, 0)", x.trappedWith(0, 0), 0);
        Checks.due("trappedWith(0, 1)", x.trappedWith(0, 1), 14);
        Checks.due("trappedWith(0, 19)", x.trappedWith(0, 19), 266);
        Checks.due("trappedWith(0, 20): as it is", x.trappedWith(0, 20), 280);
        Checks.due("trappedWith(7, 0): as it is", x.trappedWith(7, 0), 280);
        for (int height = 0; height <= 20; height++) {
            Checks.due("trappedWith(7, " + height + ")", x.trappedWith(7, height), 280 - height);
        }
    }

    private static void trappedWithReturns() {
        RoofPigeons x = Checks.taught("roofs 3 0 2 5;pigeon a at 1 loud 3;build 1;");
        long digest = x.digest();
        Checks.due("trappedWith(1, 0)", x.trappedWith(1, 0), 4);
        Checks.due("trappedWith(2, 20)", x.trappedWith(2, 20), 3);
        Checks.due("trappedWith(0, 20)", x.trappedWith(0, 20), 8);
        Checks.due("trappedWith(3, 0)", x.trappedWith(3, 0), 2);
        Checks.due("trappedWith(1, 0): as if not asked before", x.trappedWith(1, 0), 4);
        Checks.due("digest(): nothing is changed", x.digest(), digest);
        dueHeights(x, 3, 0, 2, 5);
    }

    private static void trappedWithLessThan0Or21() {
        RoofPigeons x = Checks.taught("roofs 3 0 2 5;");
        long digest = x.digest();
        for (int tower = 0; tower < 4; tower++) {
            for (int height : new int[] {-1, 21, -2, 22, Integer.MIN_VALUE, Integer.MAX_VALUE}) {
                int of = tower;
                Checks.noArgument("trappedWith(" + tower + ", " + height + ")", () -> x.trappedWith(of, height));
            }
            Checks.due("trappedWith(" + tower + ", as it is)", x.trappedWith(tower, x.heightOf(tower)), 4);
        }
        Checks.due("digest(): nothing is changed", x.digest(), digest);
    }

    private static void bestToBuild() {
        Checks.due("bestToBuild() of one", new RoofPigeons().bestToBuild(), 0);
        Checks.due("bestToBuild(): the lower end", Checks.taught("roofs 3 0 2;").bestToBuild(), 2);
        Checks.due("bestToBuild(): the last", Checks.taught("roofs 20 0 0 0 0 0 0 0 0 0 0 0 0 0 0 19;").bestToBuild(), 15);
        // only the one under water can be built, and then less is trapped
        Checks.due("bestToBuild(): less than now", Checks.taught("roofs 20 5 20;").bestToBuild(), 1);
        // the best one cannot be built
        Checks.due("bestToBuild(): of those that can be", Checks.taught("roofs 20 0 20 0 19;").bestToBuild(), 4);
        Checks.due("bestToBuild(): none that is 20", Checks.taught("roofs 20 20 19;").bestToBuild(), 2);
        RoofPigeons x = Checks.taught("roofs 3 0 2;");
        for (int times = 0; times < 5; times++) {
            int best = x.bestToBuild();
            int most = x.build(best);
            x.wear(best);
            for (int tower = 0; tower < 3; tower++) {
                Checks.due("whether build(" + best + ") traps as much as another", x.trappedWith(tower, x.heightOf(tower) + 1) <= most, true);
            }
            x.build(best);
        }
    }

    private static void bestOfSeveral() {
        Checks.due("bestToBuild() of a plain", Checks.taught(PLAIN).bestToBuild(), 0);
        Checks.due("bestToBuild() of stairs", Checks.taught(SIXTEEN).bestToBuild(), 0);
        Checks.due("bestToBuild() of both ends", Checks.taught("roofs 1 0 1;").bestToBuild(), 0);
        Checks.due("bestToBuild() of two as good behind one that is not", Checks.taught("roofs 0 3 0 20 0 3 0;").bestToBuild(), 1);
        Checks.due("bestToBuild() of two as good that both trap less", Checks.taught("roofs 20 20 5 5 20;").bestToBuild(), 2);
        Checks.due("bestToBuild(): the ends can not be built", Checks.taught(WIDEST_POOL).bestToBuild(), 1);
    }

    private static void bestOfNone() {
        Checks.due("bestToBuild() of one of 20", Checks.taught("roofs 20;").bestToBuild(), -1);
        Checks.due("bestToBuild() of 16 of 20", Checks.taught("roofs" + Checks.times(16, " 20") + ";").bestToBuild(), -1);
        Checks.due("bestToBuild() of one of 19 among them", Checks.taught("roofs" + Checks.times(15, " 20") + " 19;").bestToBuild(), 15);
        RoofPigeons x = Checks.taught("roofs 3 0 2 20 0 20;pigeon a at 1 loud 1;build 0;");
        long digest = x.digest();
        x.bestToBuild();
        Checks.due("digest(): nothing is changed", x.digest(), digest);
        dueHeights(x, 3, 0, 2, 20, 0, 20);
        Checks.due("trapped()", x.trapped(), 3 + 1 + 20);
    }

    private static void quietestTowerOfFirstAndLast() {
        // p0 to p6 are heard on 0 and 1, p7 on 1 and 2
        RoofPigeons x = Checks.taught("roofs 0 1 0;" + CallBoundaries.pigeonsAt(0).replace("p7 at 0", "p7 at 2"));
        Checks.due("quietestTower(0) of 8", x.quietestTower(0), 2);
        Checks.due("quietestTower(7) of 8", x.quietestTower(7), 2);
        Checks.due("quietestTower(0) of one", Checks.taught("roofs 0 1;pigeon a at 1 loud 9;").quietestTower(0), 0);
    }

    private static void quietestTower() {
        // b is heard on 0 to 2, c on 2 to 4
        RoofPigeons x = Checks.taught("roofs 1 1 9 1 1;pigeon a at 2 loud 9;pigeon b at 0 loud 3;pigeon c at 4 loud 2;");
        Checks.due("quietestTower(0): less than on its own one", x.quietestTower(0), 3);
        // a is heard everywhere
        Checks.due("quietestTower(1)", x.quietestTower(1), 0);
        Checks.due("quietestTower(2): not its own one", x.quietestTower(2), 3);
        RoofPigeons last = Checks.taught("roofs 9 0 1 0 9 0;pigeon a at 5 loud 1;pigeon b at 0 loud 2;pigeon c at 2 loud 3;pigeon d at 4 loud 1;");
        // b and d are heard everywhere, c on 0 to 4
        Checks.due("quietestTower(0): the last", last.quietestTower(0), 5);
        Checks.due("placeOf(0)", last.placeOf(0), 5);
    }

    private static void quietestOfSeveral() {
        Checks.due("quietestTower(0) of no noise", Checks.taught(PLAIN + "pigeon a at 15 loud 9;").quietestTower(0), 0);
        RoofPigeons x = Checks.taught(PLAIN + "pigeon a at 15 loud 9;pigeon b at 3 loud 1;");
        Checks.due("quietestTower(0) of the same noise", x.quietestTower(0), 0);
        RoofPigeons y = Checks.taught("roofs 0 1 0 0 0;pigeon a at 0 loud 9;pigeon b at 0 loud 1;");
        long digest = y.digest();
        Checks.due("quietestTower(0) of three", y.quietestTower(0), 2);
        Checks.due("digest(): nothing is changed", y.digest(), digest);
        Checks.due("placeOf(0): nothing is changed", y.placeOf(0), 0);
    }

    // ---- promises 38 and 39

    private static void meanHeight() {
        Checks.due("meanHeight() of 0", new RoofPigeons().meanHeight(), 0.0);
        Checks.due("meanHeight() of 20", Checks.taught("roofs" + Checks.times(16, " 20") + ";").meanHeight(), 20.0);
        Checks.due("meanHeight() of a half", Checks.taught("roofs 0 1;").meanHeight(), 0.5);
        Checks.due("meanHeight() of a third", Checks.taught("roofs 0 1 0;").meanHeight(), 1.0 / 3.0);
        Checks.due("meanHeight() of a 16th", Checks.taught("roofs" + Checks.times(15, " 0") + " 1;").meanHeight(), 0.0625);
        Checks.due("meanHeight() of 16", Checks.taught(SIXTEEN).meanHeight(), 8.5);
    }

    /** The digest of some numbers, reckoned without a bound and then cut to 64 bits. */
    private static long digestOf(int... numbers) {
        BigInteger d = BigInteger.valueOf(1061);
        for (int number : numbers) {
            d = d.multiply(BigInteger.valueOf(31)).add(BigInteger.valueOf(number));
        }
        return d.longValue();
    }

    /** The first twelve numbers of a digest, and six for each tower, and four for each pigeon. */
    private static int[] numbersOf(RoofPigeons x) {
        List<Integer> numbers = new ArrayList<>(Arrays.asList(x.towers(), x.pigeons(), x.day(), x.ordersCarriedOut(), x.trapped(),
                x.wetTowers(), x.widestPool(), x.highest(), x.seenFromLeft(), x.seenFromRight(), x.quietest(), x.bestToBuild()));
        for (int tower = 0; tower < x.towers(); tower++) {
            numbers.addAll(Arrays.asList(x.heightOf(tower), x.nextTallerLeft(tower), x.nextTallerRight(tower), x.waterOn(tower),
                    x.pigeonsOn(tower), x.heardOn(tower)));
        }
        for (int pigeon = 0; pigeon < x.pigeons(); pigeon++) {
            numbers.addAll(Arrays.asList(x.placeOf(pigeon), x.loudnessOf(pigeon), x.noiseAt(pigeon), x.quietestTower(pigeon)));
        }
        return numbers.stream().mapToInt(n -> n).toArray();
    }

    private static void digestOfTheFirst() {
        // one tower, no pigeon; the next taller ones of the tower are none
        long want = digestOf(1, 0, 0, 0, 0, 0, 0, 0, 1, 1, -1, 0, 0, -1, -1, 0, 0, 0);
        Checks.due("digest() at first", new RoofPigeons().digest(), want);
        Checks.due("digest() of the same that was told", Checks.taught("roofs 0;").digest(), want);
    }

    private static void digestWraps() {
        // as long as can be: 12, 16 times 6, and 8 times 4 numbers
        RoofPigeons x = Checks.taught(WIDEST_POOL + CallBoundaries.pigeonsAt(15));
        int[] numbers = numbersOf(x);
        Checks.due("how many numbers", numbers.length, 140);
        Checks.due("digest() of the most numbers", x.digest(), digestOf(numbers));
    }

    private static void digestOfTheSkyline() {
        // 20 0 1 20 on day 40, and one order was carried out
        RoofPigeons x = Checks.taught("roofs 20 0 0 20;build 2 when day=39;");
        x.passDays(30);
        x.passDays(10);
        Checks.due("digest()", x.digest(), digestOf(4, 0, 40, 1, 39, 2, 2, 0, 1, 1, -1, 1,
                20, -1, -1, 0, 0, 0, 0, 0, 2, 20, 0, 0, 1, 0, 3, 19, 0, 0, 20, -1, -1, 0, 0, 0));
        // each of the twelve is another number: 2 20 4 5 0 2 3 3 1 5 3 1, a on 3, b and c on 0
        RoofPigeons y = Checks.taught("roofs 2 0 4 5 0 2 3 3 1 5 3 1;pigeon a at 5 loud 1;pigeon b at 1 loud 3;pigeon c at 1 loud 3;build 1;");
        y.passDays(25);
        int[] numbers = numbersOf(y);
        int[] want = {12, 3, 25, 20, 17, 6, 5, 1, 2, 4, 0, 9};
        Checks.due("the first twelve numbers", Arrays.toString(Arrays.copyOf(numbers, 12)), Arrays.toString(want));
        Checks.due("digest()", y.digest(), digestOf(numbers));
    }

    private static void digestOfTowers() {
        // 2 0 3: a on 1 is heard on 0 to 2, b on 2 everywhere
        RoofPigeons x = Checks.taught("roofs 2 0 3;pigeon a at 1 loud 1;pigeon b at 2 loud 9;");
        int[] want = {
            3, 2, 0, 0, 2, 1, 1, 2, 2, 1, 1, 0,
            2, -1, 2, 0, 0, 2,
            0, 0, 2, 2, 1, 2,
            3, -1, -1, 0, 1, 2,
            1, 1, 9, 0, 2, 9, 1, 0,
        };
        Checks.due("the numbers", Arrays.toString(numbersOf(x)), Arrays.toString(want));
        Checks.due("digest()", x.digest(), digestOf(want));
    }

    private static void digestOfPigeons() {
        // a on 0 is heard on 0 and 1, b on 2 on 1 and 2, c on 1 everywhere
        RoofPigeons x = Checks.taught("roofs 0 1 0;pigeon a at 0 loud 1;pigeon b at 2 loud 2;pigeon c at 1 loud 4;");
        int[] want = {
            3, 3, 0, 0, 0, 0, 0, 1, 2, 2, 2, 0,
            0, -1, 1, 0, 1, 2, 1, -1, -1, 0, 1, 3, 0, 1, -1, 0, 1, 2,
            0, 1, 4, 0, 2, 2, 4, 2, 1, 4, 3, 0,
        };
        Checks.due("the numbers", Arrays.toString(numbersOf(x)), Arrays.toString(want));
        Checks.due("digest()", x.digest(), digestOf(want));
    }

    private static void digestReturns() {
        RoofPigeons x = Checks.taught("roofs 3 1 2 0 3;pigeon a at 1 loud 4;pigeon b at 2 loud 5;build day when noise of a>0;hop b left;");
        for (int days = 0; days < 20; days++) {
            long digest = x.digest();
            Checks.due("digest()", digest, digestOf(numbersOf(x)));
            Checks.due("digest() again", x.digest(), digest);
            x.passDays(1);
        }
    }
}
