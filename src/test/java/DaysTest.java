/** Promises 8, 9 and 32 to 34: how days go by, with orders, sums and tests. */
public final class DaysTest {
    public static void main(String[] args) {
        passDays();
        day();
        ordersCarriedOut();
        trappedAfter();
        whatWouldBe();
        daysUntilHeard();
        ordersInTheirOrder();
        orderedMoves();
        orderedBuilding();
        flights();
        valuesInSums();
        reckoning();
        wrapping();
        tests();
        joinedTests();
        Checks.end();
    }

    private static void passDays() {
        RoofPigeons x = Checks.taught("roofs 0 20; build 0; build 1; wear 1 when day = 1;");
        Checks.noArgument("passDays(0)", () -> x.passDays(0));
        Checks.noArgument("passDays(31)", () -> x.passDays(31));
        Checks.noArgument("passDays(-1)", () -> x.passDays(-1));
        Checks.noArgument("passDays(least)", () -> x.passDays(Integer.MIN_VALUE));
        Checks.noArgument("passDays(most)", () -> x.passDays(Integer.MAX_VALUE));
        Checks.due("day(): nothing is changed", x.day(), 0);
        Checks.due("passDays(1)", x.passDays(1), 1);
        Checks.due("heightOf(0)", x.heightOf(0), 1);
        Checks.due("passDays(2)", x.passDays(2), 4);
        Checks.due("heightOf(0)", x.heightOf(0), 3);
        Checks.due("heightOf(1)", x.heightOf(1), 20);
        Checks.due("passDays(30)", x.passDays(30), 17);
        Checks.due("heightOf(0)", x.heightOf(0), 20);
        Checks.due("passDays(30)", x.passDays(30), 0);
        Checks.due("day()", x.day(), 63);
    }

    private static void day() {
        RoofPigeons x = Checks.taught("roofs 1;");
        x.passDays(30);
        x.passDays(1);
        Checks.due("day()", x.day(), 31);
        x.build(0);
        x.trappedAfter(3);
        Checks.due("day(): by hand no day goes by", x.day(), 31);
    }

    private static void ordersCarriedOut() {
        RoofPigeons x = Checks.taught("roofs 0 0; pigeon a at 0 loud 1; build 1 when day < 3; hop a right; glide a left;");
        x.passDays(2);
        Checks.due("ordersCarriedOut()", x.ordersCarriedOut(), 6);
        x.hop(0, true);
        x.glide(0, false);
        x.wear(1);
        Checks.due("ordersCarriedOut(): not by hand", x.ordersCarriedOut(), 6);
        x.trappedAfter(5);
        x.daysUntilHeard(0, 0);
        Checks.due("ordersCarriedOut(): not what would be", x.ordersCarriedOut(), 6);
        // on each day a hops and glides back; on the first one tower 1 is built as well
        Checks.due("passDays(3)", x.passDays(3), 7);
        Checks.due("ordersCarriedOut()", x.ordersCarriedOut(), 13);
    }

    private static void trappedAfter() {
        RoofPigeons x = Checks.taught("roofs 0 0 0; pigeon a at 1 loud 2; build 0; build 2 when day > 0; hop a right when day = 2;");
        long digest = x.digest();
        Checks.due("trappedAfter(1)", x.trappedAfter(1), 0);
        Checks.due("trappedAfter(2)", x.trappedAfter(2), 1);
        Checks.due("trappedAfter(5)", x.trappedAfter(5), 4);
        Checks.due("trappedAfter(30)", x.trappedAfter(30), 20);
        Checks.noArgument("trappedAfter(0)", () -> x.trappedAfter(0));
        Checks.noArgument("trappedAfter(31)", () -> x.trappedAfter(31));
        Checks.noArgument("trappedAfter(-1)", () -> x.trappedAfter(-1));
        Checks.due("digest(): nothing is changed", x.digest(), digest);
        x.passDays(5);
        Checks.due("trapped() is what was told", x.trapped(), 4);
        Checks.due("trappedAfter(1): from this day on", x.trappedAfter(1), 5);
    }

    /** What would be follows pigeons as well: their noise, and their flights. */
    private static void whatWouldBe() {
        RoofPigeons x = Checks.taught("roofs 2 1 2; pigeon a at 0 loud 3; pigeon b at 2 loud 4; build 0 when noise of a = 4; build 2 when noise of b = 3;");
        Checks.due("trappedAfter(4) with noise", x.trappedAfter(4), 5);
        RoofPigeons y = Checks.taught("roofs 5 1 9 1 5; pigeon a at 1 loud 1; pigeon b at 4 loud 1; build 1 when place of a = 0; build 1 when place of a = 1;");
        Checks.due("trappedAfter(1) with flights", y.trappedAfter(1), 7);
        Checks.due("placeOf(0): nothing is changed", y.placeOf(0), 1);
        RoofPigeons z = Checks.taught("roofs 5 1 1 9 1; pigeon a at 1 loud 1; pigeon b at 4 loud 1; build 0 when day < 4; hop a right when day = 2;");
        Checks.due("daysUntilHeard(1, 0): a flies to 0, and hops to 3", z.daysUntilHeard(1, 0), 3);
    }

    private static void daysUntilHeard() {
        RoofPigeons x = Checks.taught("roofs 1 5 1; pigeon a at 0 loud 1; pigeon b at 2 loud 1; hop b left when day = 39;");
        long digest = x.digest();
        Checks.due("daysUntilHeard(0, 1): at most 40", x.daysUntilHeard(0, 1), 40);
        Checks.due("daysUntilHeard(0, 0)", x.daysUntilHeard(0, 0), -1);
        Checks.due("daysUntilHeard(1, 0)", x.daysUntilHeard(1, 0), 40);
        Checks.due("digest(): nothing is changed", x.digest(), digest);
        x.passDays(1);
        Checks.due("daysUntilHeard(0, 1) a day on", x.daysUntilHeard(0, 1), 39);
        x.passDays(30);
        x.passDays(8);
        Checks.due("daysUntilHeard(0, 1) a day ahead", x.daysUntilHeard(0, 1), 1);
        x.passDays(1);
        Checks.due("daysUntilHeard(0, 1) now", x.daysUntilHeard(0, 1), 0);
        RoofPigeons late = Checks.taught("roofs 1 5 1; pigeon a at 0 loud 1; pigeon b at 2 loud 1; hop b left when day = 40;");
        Checks.due("daysUntilHeard(0, 1) behind 41 days", late.daysUntilHeard(0, 1), -1);
        Checks.noIndex("daysUntilHeard(-1, 0)", () -> late.daysUntilHeard(-1, 0));
        Checks.noIndex("daysUntilHeard(0, -1)", () -> late.daysUntilHeard(0, -1));
        Checks.noIndex("daysUntilHeard(2, 0)", () -> late.daysUntilHeard(2, 0));
        Checks.noIndex("daysUntilHeard(0, 2)", () -> late.daysUntilHeard(0, 2));
        // the first one has to hear the other one, which is heard only on its own peak and beside it
        RoofPigeons peak = Checks.taught("roofs 1 2 9 1 9; pigeon a at 2 loud 1; pigeon b at 0 loud 1;");
        Checks.due("daysUntilHeard(1, 0)", peak.daysUntilHeard(1, 0), 0);
        Checks.due("daysUntilHeard(0, 1)", peak.daysUntilHeard(0, 1), -1);
    }

    private static void ordersInTheirOrder() {
        RoofPigeons x = Checks.taught("roofs 1 1; build 0; build 1 when height(0) = 2; wear 0 when height(1) = 2; wear 1 when height(0) = 2;");
        Checks.due("passDays(1): each finds what those ahead did", x.passDays(1), 3);
        Checks.due("heightOf(0)", x.heightOf(0), 1);
        Checks.due("heightOf(1)", x.heightOf(1), 2);
        RoofPigeons y = Checks.taught("roofs 0 1 2 3; pigeon a at 0 loud 1; hop a right; hop a right; build place of a;");
        Checks.due("passDays(1)", y.passDays(1), 3);
        Checks.due("placeOf(0)", y.placeOf(0), 2);
        Checks.due("heightOf(2)", y.heightOf(2), 3);
        RoofPigeons z = Checks.taught("roofs 1; build 0 when day = 0; build 0 when day = 1; build 0 when day = 1;");
        Checks.due("passDays(1): the day is 1 greater only then", z.passDays(1), 1);
        Checks.due("passDays(1)", z.passDays(1), 2);
    }

    private static void orderedMoves() {
        RoofPigeons x = Checks.taught("roofs 5 2 2 3; pigeon a at 2 loud 1; pigeon b at 0 loud 1;"
                + " hop a right when day = 0; glide a left when day = 1; hop a left when day = 2; glide b right when day = 3;"
                + " hop b right when day > 3; glide b left when day > 3;");
        // the first and the last tower are dry, those between them wet
        Checks.due("passDays(1): hop right", x.passDays(1), 1);
        Checks.due("placeOf(0)", x.placeOf(0), 3);
        Checks.due("passDays(1): glide left, and fly back from a wet one", x.passDays(1), 1);
        Checks.due("placeOf(0)", x.placeOf(0), 3);
        Checks.due("passDays(1): hop left", x.passDays(1), 1);
        Checks.due("placeOf(0)", x.placeOf(0), 0);
        Checks.due("passDays(1): glide right, and fly back", x.passDays(1), 1);
        Checks.due("placeOf(1)", x.placeOf(1), 0);
        Checks.due("passDays(1): neither can be done", x.passDays(1), 0);
        Checks.due("placeOf(1)", x.placeOf(1), 0);
    }

    private static void orderedBuilding() {
        RoofPigeons x = Checks.taught("roofs 1 1 1; build 3; build 0-1; build 5; build -3;");
        Checks.due("passDays(1): remainders are 0 or greater", x.passDays(1), 4);
        Checks.due("heightOf(0)", x.heightOf(0), 3);
        Checks.due("heightOf(1)", x.heightOf(1), 1);
        Checks.due("heightOf(2)", x.heightOf(2), 3);
        RoofPigeons y = Checks.taught("roofs 20 0 5; build 0; wear 1; wear -1;");
        Checks.due("passDays(1): only what changes a height", y.passDays(1), 1);
        Checks.due("heightOf(0)", y.heightOf(0), 20);
        Checks.due("heightOf(1)", y.heightOf(1), 0);
        Checks.due("heightOf(2)", y.heightOf(2), 4);
        // -2147483648 by 3 leaves 1: it is 3 * -715827883 + 1
        RoofPigeons z = Checks.taught("roofs 1 1 1; build 32768*65536; wear 0-32768*65536-1;");
        Checks.due("passDays(1): the least and the greatest number", z.passDays(1), 2);
        Checks.due("heightOf(1): built, and worn by 2147483647", z.heightOf(1), 1);
    }

    private static void flights() {
        RoofPigeons x = Checks.taught("roofs 5 0 0 0 5 9; pigeon a at 1 loud 1; pigeon b at 2 loud 1; pigeon c at 3 loud 1; pigeon d at 5 loud 1;");
        Checks.due("placeOf(1): only a day makes it fly", x.placeOf(1), 2);
        Checks.due("passDays(1): flying is no order", x.passDays(1), 0);
        int[] want = {0, 0, 4, 5};
        for (int k = 0; k < want.length; k++) {
            Checks.due("placeOf(" + k + ")", x.placeOf(k), want[k]);
        }
        RoofPigeons y = Checks.taught("roofs 9 3 3 3 9 1 1 1 1 1 9; pigeon a at 3 loud 1; pigeon b at 6 loud 1; pigeon c at 7 loud 1; pigeon d at 8 loud 1;");
        y.passDays(1);
        int[] dry = {4, 4, 4, 10};
        for (int k = 0; k < dry.length; k++) {
            Checks.due("placeOf(" + k + ")", y.placeOf(k), dry[k]);
        }
        // the rain of this day's building counts; a dry tower may stand between wet ones
        RoofPigeons z = Checks.taught("roofs 5 1 3 3 5; pigeon a at 1 loud 1; pigeon b at 3 loud 1; build 2; build 2;");
        z.passDays(1);
        Checks.due("placeOf(0)", z.placeOf(0), 0);
        Checks.due("placeOf(1)", z.placeOf(1), 2);
    }

    /** Whether a test holds, over 4 1 2 6 0 on day 2, with a on 0 (loud 3), b on 2 (loud 5) and c on 4 (loud 7). */
    private static boolean holds(String test) {
        // the order comes to its turn on day 2; there are 5 towers, of which 1 and 2 are wet: b sits on 3 then
        RoofPigeons x = Checks.taught("roofs 4 1 2 6 0; pigeon a at 0 loud 3; pigeon b at 2 loud 5; pigeon c at 4 loud 7;"
                + " build 4 when day = 2 and [" + test + "];");
        x.passDays(2);
        return x.passDays(1) == 1;
    }

    private static void dueHolds(String test, boolean want) {
        Checks.due("whether " + test, holds(test), want);
    }

    private static void valuesInSums() {
        dueHolds("day = 2", true);
        dueHolds("rain = 5", true);
        dueHolds("seen = 2", true);
        dueHolds("towers = 5", true);
        dueHolds("place of a = 0", true);
        dueHolds("place of b = 3", true);
        dueHolds("place of c = 4", true);
        dueHolds("noise of a = 5", true);
        dueHolds("noise of b = 10", true);
        dueHolds("noise of c = 5", true);
        dueHolds("height(0) = 4", true);
        dueHolds("height(3) = 6", true);
        dueHolds("height(5) = 4", true);
        dueHolds("height(-1) = 0", true);
        dueHolds("height(-2) = 6", true);
        dueHolds("height(999999) = 0", true);
        dueHolds("height(1+1) = 2", true);
        dueHolds("height(height(1)) = 1", true);
        dueHolds("123456 = 123456", true);
        dueHolds("min(3, 5) = 3", true);
        dueHolds("min(5, 3) = 3", true);
        dueHolds("min(-5, 3) = -5", true);
        dueHolds("max(3, 5) = 5", true);
        dueHolds("max(5, 3) = 5", true);
        dueHolds("max(-5, -3) = -3", true);
        dueHolds("max(min(1, 2), min(4, 3)) = 3", true);
    }

    private static void reckoning() {
        dueHolds("2 + 3 * 4 = 14", true);
        dueHolds("(2 + 3) * 4 = 20", true);
        dueHolds("2 * 3 + 4 = 10", true);
        dueHolds("10 - 3 - 2 = 5", true);
        dueHolds("10 - (3 - 2) = 9", true);
        dueHolds("100 / 10 / 5 = 2", true);
        dueHolds("100 / (10 / 5) = 50", true);
        dueHolds("8 / 2 * 4 = 16", true);
        dueHolds("8 * 3 / 5 = 4", true);
        dueHolds("2 - 3 = -1", true);
        dueHolds("-2 * 3 = -6", true);
        dueHolds("-2 + 5 = 3", true);
        dueHolds("2 - -3 = 5", true);
        dueHolds("--3 = 3", true);
        dueHolds("-(2 + 3) = -5", true);
        dueHolds("7 / 2 = 3", true);
        dueHolds("-7 / 2 = -3", true);
        dueHolds("7 / -2 = -3", true);
        dueHolds("-7 / -2 = 3", true);
        dueHolds("1 / 2 = 0", true);
        dueHolds("-1 / 2 = 0", true);
        dueHolds("7 / 0 = 0", true);
        dueHolds("0 / 0 = 0", true);
        dueHolds("-7 / (2 - 2) = 0", true);
        dueHolds("5 + 7 / 0 = 5", true);
    }

    private static void wrapping() {
        // 32768 * 65536 is 2147483648, which is -2147483648 in 32 bits
        dueHolds("32768 * 65536 < 0", true);
        dueHolds("32768 * 65536 - 1 > 0", true);
        dueHolds("32768 * 65536 - 1 + 1 < 0", true);
        dueHolds("-(32768 * 65536) = 32768 * 65536", true);
        dueHolds("32768 * 65536 / -1 = 32768 * 65536", true);
        dueHolds("32768 * 65536 * 2 = 0", true);
        dueHolds("65536 * 65536 = 0", true);
        dueHolds("65536 * 65537 = 65536", true);
        // 999999 * 999999 is 999998000001, which leaves -729379967
        dueHolds("999999 * 999999 = -(729 * 1000 * 1000 + 379 * 1000 + 967)", true);
        dueHolds("32768 * 65536 / 32768 = -65536", true);
        dueHolds("min(32768 * 65536, 0) = 0", false);
    }

    private static void tests() {
        dueHolds("1 < 2", true);
        dueHolds("2 < 2", false);
        dueHolds("3 < 2", false);
        dueHolds("1 > 2", false);
        dueHolds("2 > 2", false);
        dueHolds("3 > 2", true);
        dueHolds("1 = 2", false);
        dueHolds("2 = 2", true);
        dueHolds("1 <= 2", true);
        dueHolds("2 <= 2", true);
        dueHolds("3 <= 2", false);
        dueHolds("1 >= 2", false);
        dueHolds("2 >= 2", true);
        dueHolds("3 >= 2", true);
        dueHolds("-1 < 0", true);
        // a is heard on 0 to 3, b everywhere, c on 3 and 4
        dueHolds("hears a b", true);
        dueHolds("hears b a", true);
        dueHolds("hears a c", false);
        dueHolds("hears c a", false);
        dueHolds("hears c b", true);
        dueHolds("hears b c", true);
        dueHolds("hears a a", false);
        dueHolds("over a c", true);
        dueHolds("over c a", false);
        dueHolds("over a b", false);
        dueHolds("over b a", true);
        dueHolds("over a a", false);
        dueHolds("dry 0", true);
        dueHolds("dry 1", false);
        dueHolds("dry 2", false);
        dueHolds("dry 3", true);
        dueHolds("dry 4", true);
        dueHolds("dry 6", false);
        dueHolds("dry -4", false);
        dueHolds("dry -1", true);
        dueHolds("dry 1 + 2", true);
        RoofPigeons x = Checks.taught("roofs 1 9 2; pigeon a at 1 loud 1; pigeon b at 0 loud 1; build 0 when hears a b; build 0 when hears b a; wear 2 when hears a a;");
        Checks.due("passDays(1): the first one hears the second", x.passDays(1), 2);
        RoofPigeons y = Checks.taught("roofs 1 2 9 2; pigeon a at 2 loud 1; pigeon b at 0 loud 1; build 3 when hears b a; build 3 when hears a b;");
        Checks.due("passDays(1): not the other way", y.passDays(1), 1);
    }

    private static void joinedTests() {
        Checks.due("not, alone", Checks.taught("roofs 1; build 0 when not 1 = 1;").passDays(1), 0);
        Checks.due("not, alone", Checks.taught("roofs 1; build 0 when not 1 = 2;").passDays(1), 1);
        Checks.due("or, alone", Checks.taught("roofs 1; build 0 when 1 = 2 or 1 = 1;").passDays(1), 1);
        Checks.due("not, and or", Checks.taught("roofs 1; build 0 when not 1 = 1 or not 2 = 2;").passDays(1), 0);
        String t = "1 = 1";
        String f = "1 = 2";
        dueHolds(t + " and " + t, true);
        dueHolds(t + " and " + f, false);
        dueHolds(f + " and " + t, false);
        dueHolds(f + " and " + f, false);
        dueHolds(t + " or " + t, true);
        dueHolds(t + " or " + f, true);
        dueHolds(f + " or " + t, true);
        dueHolds(f + " or " + f, false);
        dueHolds("not " + t, false);
        dueHolds("not " + f, true);
        dueHolds("not not " + t, true);
        dueHolds(t + " or " + t + " and " + f, true);
        dueHolds(f + " and " + t + " or " + t, true);
        dueHolds("[" + t + " or " + t + "] and " + f, false);
        dueHolds(f + " and [" + t + " or " + t + "]", false);
        dueHolds("not " + f + " and " + f, false);
        dueHolds("not [" + f + " and " + f + "]", true);
        dueHolds("not " + t + " or " + t, true);
        dueHolds("not [" + t + " or " + t + "]", false);
        dueHolds(t + " and " + t + " and " + f, false);
        dueHolds(f + " or " + f + " or " + t, true);
        dueHolds("not hears a b", false);
        dueHolds("not dry 1", true);
        dueHolds("not over a c or dry 0 and not hears a c", true);
    }
}
