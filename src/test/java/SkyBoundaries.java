/** The boundary cases of "2. Towers" and "3. Pigeons", a test for each sentence. */
final class SkyBoundaries {
    private static final String WIDE_PLAIN = "roofs 4 4 4 4 4 4 4 4 4 4 4 4 4 4 4 4;";
    private static final String WIDEST_POOL = "roofs 20 0 0 0 0 0 0 0 0 0 0 0 0 0 0 20;";

    private SkyBoundaries() {
    }

    static void run() {
        towers();
        pigeons();
        day();
        values();
        exceptions();
    }

    private static void towers() {
        String part = "2. Towers";
        Sentences.test(part, "A roof is seen from the left, if each tower to its left is less high,", SkyBoundaries::seenFromLeft);
        Sentences.test(part, "from the right likewise.", SkyBoundaries::seenFromRight);
        Sentences.test(part, "The next taller tower of a tower to the right is the nearest one to its right that is higher,",
                SkyBoundaries::nextTallerRight);
        Sentences.test(part, "to the left likewise.", SkyBoundaries::nextTallerLeft);
        Sentences.test(part, "Water stands on a tower as high as the lower one of two heights is greater than its own: that of the"
                + " highest tower to its left, and that of the highest one to its right;", SkyBoundaries::water);
        Sentences.test(part, "none, if it is not greater,", SkyBoundaries::noWaterOfNotGreater);
        Sentences.test(part, "or one of both sides has no tower.", SkyBoundaries::noWaterAtTheEnds);
        Sentences.test(part, "A tower is wet, if water stands on it, otherwise dry.", SkyBoundaries::wetAndDry);
        Sentences.test(part, "Trapped is all water, added.", SkyBoundaries::allWater);
    }

    private static void pigeons() {
        String part = "3. Pigeons";
        Sentences.test(part, "A pigeon sits on a tower; many can sit on one.", SkyBoundaries::manyOnOne);
        Sentences.test(part, "It is heard on its own tower,", SkyBoundaries::heardOnItsOwn);
        Sentences.test(part, "and to each side up to the next taller tower,", SkyBoundaries::heardUpToTheNextTaller);
        Sentences.test(part, "and on that as well;", SkyBoundaries::heardOnTheNextTaller);
        Sentences.test(part, "without such a one up to the end.", SkyBoundaries::heardUpToTheEnd);
        Sentences.test(part, "Its noise is the loudness of all other pigeons that it hears, added: those that are heard on its tower.",
                SkyBoundaries::noise);
        Sentences.test(part, "Hopping to a side: to the next taller tower there.", SkyBoundaries::hopping);
        Sentences.test(part, "Gliding to a side: to the tower beside its own one on that side, if this is lower.", SkyBoundaries::gliding);
        Sentences.test(part, "It can be done if there is such a one.", SkyBoundaries::movesThatCannotBeDone);
        Sentences.test(part, "Building a tower: it is 1 higher, at most 20;", SkyBoundaries::building);
        Sentences.test(part, "wearing: 1 less high, at least 0.", SkyBoundaries::wearing);
        Sentences.test(part, "It can be done if its height changes.", SkyBoundaries::heightsThatDoNotChange);
    }

    private static void day() {
        String part = "3. Pigeons";
        Sentences.free(part, "A day goes like this:");
        Sentences.test(part, "1. Orders, in the order in which they are told,", SkyBoundaries::ordersInTheirOrder);
        Sentences.test(part, "if the test holds as it comes to its turn (or there is none),", SkyBoundaries::testsAtTheirTurn);
        Sentences.test(part, "and if it can be done:", SkyBoundaries::ordersThatComeToNothing);
        Sentences.test(part, "a pigeon hops or glides;", SkyBoundaries::orderedMoves);
        Sentences.test(part, "or the tower is built or worn whose number is the remainder of the sum by how many towers there are,"
                + " which is 0 or greater.", SkyBoundaries::towerByTheRemainder);
        Sentences.test(part, "Each of these is carried out.", SkyBoundaries::eachIsCarriedOut);
        Sentences.test(part, "2. Each pigeon, by numbers, whose tower is wet, flies to the nearest dry tower,", SkyBoundaries::flights);
        Sentences.test(part, "of two as near the one to the left.", SkyBoundaries::flightsOfTwoAsNear);
        Sentences.test(part, "3. The day is 1 greater.", SkyBoundaries::dayGreater);
    }

    private static void values() {
        String part = "3. Pigeons";
        Sentences.test(part, "In tests and sums day is the day,", SkyBoundaries::valueOfDay);
        Sentences.test(part, "rain what is trapped,", SkyBoundaries::valueOfRain);
        Sentences.test(part, "seen how many roofs are seen from the left,", SkyBoundaries::valueOfSeen);
        Sentences.test(part, "towers how many there are,", SkyBoundaries::valueOfTowers);
        Sentences.test(part, "noise that of a pigeon,", SkyBoundaries::valueOfNoise);
        Sentences.test(part, "place the number of its tower,", SkyBoundaries::valueOfPlace);
        Sentences.test(part, "height that of the tower by the remainder;", SkyBoundaries::valueOfHeight);
        Sentences.test(part, "hears holds if the first pigeon hears the second one, which is another one,", SkyBoundaries::whetherHears);
        Sentences.test(part, "over if its tower is higher,", SkyBoundaries::whetherOver);
        Sentences.test(part, "dry if the tower by the remainder is dry.", SkyBoundaries::whetherDry);
        Sentences.test(part, "Both sides of and and or are reckoned;", SkyBoundaries::bothSides);
        Sentences.test(part, "and binds more than or,", SkyBoundaries::andMoreThanOr);
        Sentences.test(part, "not more than and.", SkyBoundaries::notMoreThanAnd);
    }

    private static void exceptions() {
        String part = "3. Pigeons";
        Sentences.test(part, "A method that throws an exception changes nothing.", SkyBoundaries::nothingIsChanged);
        Sentences.test(part, "If several exceptions apply, the one that is named first is thrown.", SkyBoundaries::theOneNamedFirst);
        String[] groups = {
            "Ahead of the calls `feed`, `trim`, `teach`, `errorAt` the interface says: ---- the language.",
            "Ahead of the calls `towers`, `pigeons`, `day`, `ordersCarriedOut`, `trapped`, `wetTowers`, `widestPool`, `highest`,"
                + " `seenFromLeft`, `seenFromRight` the interface says: ---- the skyline.",
            "Ahead of the calls `heightOf`, `isSeenFromLeft`, `nextTallerLeft`, `nextTallerRight`, `waterOn`, `pigeonsOn`, `heardOn`"
                + " the interface says: ---- towers.",
            "Ahead of the calls `placeOf`, `loudnessOf`, `hears`, `noiseAt`, `quietest` the interface says: ---- pigeons.",
            "Ahead of the calls `hop`, `glide`, `build`, `wear` the interface says: ---- by hand.",
            "Ahead of the calls `passDays`, `trappedAfter`, `daysUntilHeard`, `trappedWith`, `bestToBuild`, `quietestTower`,"
                + " `meanHeight`, `digest` the interface says: ---- days and what would be.",
        };
        for (String group : groups) {
            Sentences.free(part, group);
        }
    }

    // ---- towers

    private static void seenFromLeft() {
        // one as high as the highest to its left is not seen, beside it or farther off
        RoofPigeons x = Checks.taught("roofs 0 0 2 1 2 3 20 20 19;");
        boolean[] want = {true, false, true, false, false, true, true, false, false};
        for (int tower = 0; tower < want.length; tower++) {
            Checks.due("isSeenFromLeft(" + tower + ")", x.isSeenFromLeft(tower), want[tower]);
        }
        Checks.due("seenFromLeft()", x.seenFromLeft(), 4);
        Checks.due("isSeenFromLeft(0) of 20", Checks.taught("roofs 20 0;").isSeenFromLeft(0), true);
        Checks.due("isSeenFromLeft(0) of one", new RoofPigeons().isSeenFromLeft(0), true);
    }

    private static void seenFromRight() {
        Checks.due("seenFromRight()", Checks.taught("roofs 19 20 20 3 2 1 2 0 0;").seenFromRight(), 4);
        Checks.due("seenFromRight() of two as high", Checks.taught("roofs 5 5;").seenFromRight(), 1);
        Checks.due("seenFromRight() farther off", Checks.taught("roofs 5 1 5;").seenFromRight(), 1);
        Checks.due("seenFromRight() of one", new RoofPigeons().seenFromRight(), 1);
        Checks.due("seenFromRight(): not from the left", Checks.taught("roofs 0 1 2;").seenFromRight(), 1);
        Checks.due("seenFromRight(): the last one is seen", Checks.taught("roofs 20 0;").seenFromRight(), 2);
    }

    private static void nextTallerRight() {
        RoofPigeons x = Checks.taught("roofs 2 2 1 3 20 0 20 19;");
        int[] want = {3, 3, 3, 4, -1, 6, -1, -1};
        for (int tower = 0; tower < want.length; tower++) {
            Checks.due("nextTallerRight(" + tower + ")", x.nextTallerRight(tower), want[tower]);
        }
        Checks.due("nextTallerRight(0) of one", new RoofPigeons().nextTallerRight(0), -1);
        Checks.due("nextTallerRight(0): the last one", Checks.taught("roofs 4 4 4 5;").nextTallerRight(0), 3);
        Checks.due("nextTallerRight(0) of a plain", Checks.taught(WIDE_PLAIN).nextTallerRight(0), -1);
    }

    private static void nextTallerLeft() {
        RoofPigeons x = Checks.taught("roofs 19 20 0 20 3 1 2 2;");
        int[] want = {-1, -1, 1, -1, 3, 4, 4, 4};
        for (int tower = 0; tower < want.length; tower++) {
            Checks.due("nextTallerLeft(" + tower + ")", x.nextTallerLeft(tower), want[tower]);
        }
        Checks.due("nextTallerLeft(0) of one", new RoofPigeons().nextTallerLeft(0), -1);
        Checks.due("nextTallerLeft(3): the first one", Checks.taught("roofs 5 4 4 4;").nextTallerLeft(3), 0);
        Checks.due("nextTallerLeft(15) of a plain", Checks.taught(WIDE_PLAIN).nextTallerLeft(15), -1);
    }

    private static void dueWater(String roofs, int... want) {
        RoofPigeons x = Checks.taught(roofs);
        for (int tower = 0; tower < want.length; tower++) {
            Checks.due("waterOn(" + tower + ") of " + roofs, x.waterOn(tower), want[tower]);
        }
    }

    private static void water() {
        dueWater("roofs 5 1 3;", 0, 2, 0);
        dueWater("roofs 3 1 5;", 0, 2, 0);
        dueWater("roofs 20 0 20;", 0, 20, 0);
        dueWater("roofs 20 0 1;", 0, 1, 0);
        // the highest ones, not the nearest ones
        dueWater("roofs 5 2 1 2 4;", 0, 2, 3, 2, 0);
        dueWater("roofs 4 6 1 2 0 7 5;", 0, 0, 5, 4, 6, 0, 0);
        // a single pool from end to end
        dueWater(WIDEST_POOL, 0, 20, 20, 20, 20, 20, 20, 20, 20, 20, 20, 20, 20, 20, 20, 0);
    }

    private static void noWaterOfNotGreater() {
        dueWater("roofs 3 3 3;", 0, 0, 0);
        dueWater("roofs 3 4 3;", 0, 0, 0);
        dueWater("roofs 9 3 3;", 0, 0, 0);
        dueWater("roofs 3 3 9;", 0, 0, 0);
        dueWater("roofs 0 1 2 3;", 0, 0, 0, 0);
        dueWater("roofs 3 2 1 0;", 0, 0, 0, 0);
        dueWater("roofs 0 20 0;", 0, 0, 0);
        dueWater(WIDE_PLAIN, 0, 0, 0, 0, 0, 0, 0, 0, 0, 0, 0, 0, 0, 0, 0, 0);
    }

    private static void noWaterAtTheEnds() {
        dueWater("roofs 0 20;", 0, 0);
        dueWater("roofs 20 0;", 0, 0);
        dueWater("roofs 0 20 0;", 0, 0, 0);
        dueWater("roofs 0 0 9;", 0, 0, 0);
        dueWater("roofs 9 0 0;", 0, 0, 0);
        dueWater("roofs 0;", 0);
    }

    private static void wetAndDry() {
        // 1 high is enough
        RoofPigeons x = Checks.taught("roofs 1 0 1 1;pigeon a at 1 loud 1;pigeon b at 2 loud 1;build 3 when not dry 1;"
                + "build 3 when dry 0 and dry 2 and dry 3;wear 3 when dry 1;wear 3 when not dry 0 or not dry 2 or not dry 3;");
        Checks.due("wetTowers()", x.wetTowers(), 1);
        Checks.due("widestPool()", x.widestPool(), 1);
        Checks.due("passDays(1)", x.passDays(1), 2);
        Checks.due("placeOf(0): a wet one is left", x.placeOf(0), 0);
        Checks.due("placeOf(1): a dry one is not", x.placeOf(1), 2);
        Checks.due("wetTowers() of none", Checks.taught("roofs 1 1 1;").wetTowers(), 0);
    }

    private static void allWater() {
        Checks.due("trapped() of no water", Checks.taught(WIDE_PLAIN).trapped(), 0);
        Checks.due("trapped() of 1", Checks.taught("roofs 1 0 1;").trapped(), 1);
        Checks.due("trapped() of two pools", Checks.taught("roofs 3 1 3 0 0 9;").trapped(), 2 + 6);
        Checks.due("trapped() of the most", Checks.taught(WIDEST_POOL).trapped(), 280);
    }

    // ---- pigeons

    private static void manyOnOne() {
        StringBuilder text = new StringBuilder("roofs 1 2;");
        for (int pigeon = 0; pigeon < 8; pigeon++) {
            text.append("pigeon p").append(pigeon).append(" at 0 loud 9;hop p").append(pigeon).append(" right;");
        }
        RoofPigeons x = Checks.taught(text.toString());
        Checks.due("pigeonsOn(0)", x.pigeonsOn(0), 8);
        Checks.due("pigeonsOn(1)", x.pigeonsOn(1), 0);
        Checks.due("passDays(1)", x.passDays(1), 8);
        Checks.due("pigeonsOn(0)", x.pigeonsOn(0), 0);
        Checks.due("pigeonsOn(1)", x.pigeonsOn(1), 8);
    }

    private static void dueHeardOn(String text, int... want) {
        RoofPigeons x = Checks.taught(text);
        for (int tower = 0; tower < want.length; tower++) {
            Checks.due("heardOn(" + tower + ") of " + text, x.heardOn(tower), want[tower]);
        }
    }

    private static void heardOnItsOwn() {
        dueHeardOn("roofs 3;pigeon a at 0 loud 1;", 1);
        dueHeardOn("roofs 3 1 3;pigeon a at 1 loud 1;", 1, 1, 1);
        RoofPigeons x = Checks.taught("roofs 1 2 1;pigeon a at 0 loud 1;pigeon b at 0 loud 1;pigeon c at 2 loud 1;pigeon d at 2 loud 1;");
        Checks.due("hears(0, 1)", x.hears(0, 1), true);
        Checks.due("hears(1, 0)", x.hears(1, 0), true);
        Checks.due("hears(2, 3)", x.hears(2, 3), true);
        Checks.due("heardOn(0)", x.heardOn(0), 2);
        Checks.due("heardOn(2)", x.heardOn(2), 2);
    }

    private static void heardUpToTheNextTaller() {
        // not beyond it, though all there is lower
        dueHeardOn("roofs 0 0 4 0 3 3 1 4 0 0;pigeon a at 4 loud 1;", 0, 0, 1, 1, 1, 1, 1, 1, 0, 0);
        dueHeardOn("roofs 0 2 1 2 0;pigeon a at 2 loud 1;", 0, 1, 1, 1, 0);
        dueHeardOn("roofs 9 3 4;pigeon a at 2 loud 1;", 1, 1, 1);
        // those as high as its own are not in between
        dueHeardOn("roofs 0 4 3 3 3 4 0;pigeon a at 3 loud 1;", 0, 1, 1, 1, 1, 1, 0);
    }

    private static void heardOnTheNextTaller() {
        dueHeardOn("roofs 0 4 3 4 0;pigeon a at 2 loud 1;", 0, 1, 1, 1, 0);
        dueHeardOn("roofs 1 2;pigeon a at 0 loud 1;", 1, 1);
        dueHeardOn("roofs 2 1;pigeon a at 1 loud 1;", 1, 1);
        RoofPigeons x = Checks.taught("roofs 1 2 1;pigeon a at 1 loud 1;pigeon b at 0 loud 1;pigeon c at 2 loud 1;");
        Checks.due("hears(0, 1)", x.hears(0, 1), true);
        Checks.due("hears(0, 2)", x.hears(0, 2), true);
        Checks.due("hears(1, 2)", x.hears(1, 2), false);
    }

    private static void heardUpToTheEnd() {
        dueHeardOn("roofs 0 5 1 5 0;pigeon a at 1 loud 1;", 1, 1, 1, 1, 1);
        dueHeardOn("roofs 0 9 1 5 0;pigeon a at 3 loud 1;", 0, 1, 1, 1, 1);
        dueHeardOn("roofs 0 5 1 9 0;pigeon a at 1 loud 1;", 1, 1, 1, 1, 0);
        dueHeardOn("roofs 4 4 4 4 4 4 4 4 4 4 4 4 4 4 4 4;pigeon a at 0 loud 1;", 1, 1, 1, 1, 1, 1, 1, 1, 1, 1, 1, 1, 1, 1, 1, 1);
        dueHeardOn("roofs 4 4 4 4 4 4 4 4 4 4 4 4 4 4 4 4;pigeon a at 15 loud 1;", 1, 1, 1, 1, 1, 1, 1, 1, 1, 1, 1, 1, 1, 1, 1, 1);
    }

    private static void noise() {
        Checks.due("noiseAt(0) of one", Checks.taught("roofs 1;pigeon a at 0 loud 9;").noiseAt(0), 0);
        StringBuilder text = new StringBuilder("roofs 1;");
        for (int pigeon = 0; pigeon < 8; pigeon++) {
            text.append("pigeon p").append(pigeon).append(" at 0 loud 9;");
        }
        RoofPigeons x = Checks.taught(text.toString());
        Checks.due("noiseAt(0) of eight", x.noiseAt(0), 63);
        Checks.due("noiseAt(7) of eight", x.noiseAt(7), 63);
        // b is heard by all, but hears c alone
        RoofPigeons y = Checks.taught("roofs 0 1 9 1 0;pigeon a at 0 loud 1;pigeon b at 2 loud 2;pigeon c at 3 loud 4;pigeon d at 4 loud 8;");
        int[] want = {2, 4, 2 + 8, 2 + 4};
        for (int pigeon = 0; pigeon < want.length; pigeon++) {
            Checks.due("noiseAt(" + pigeon + ")", y.noiseAt(pigeon), want[pigeon]);
        }
    }

    private static void hopping() {
        RoofPigeons x = Checks.taught("roofs 3 2 0 2 0 2 3 20;pigeon a at 3 loud 1;pigeon b at 3 loud 1;");
        // over lower ones and those as high, to the nearest that is higher
        Checks.due("hop(0, left)", x.hop(0, false), 0);
        Checks.due("hop(1, right)", x.hop(1, true), 6);
        Checks.due("hop(0, right)", x.hop(0, true), 7);
        Checks.due("hop(1, right)", x.hop(1, true), 7);
        Checks.due("hop(0, right) from end to end", Checks.taught("roofs 1 1 1 1 1 1 1 1 1 1 1 1 1 1 1 2;pigeon a at 0 loud 1;")
                .hop(0, true), 15);
        Checks.due("hop(0, left) from end to end", Checks.taught("roofs 2 1 1 1 1 1 1 1 1 1 1 1 1 1 1 1;pigeon a at 15 loud 1;")
                .hop(0, false), 0);
    }

    private static void gliding() {
        RoofPigeons x = Checks.taught("roofs 0 19 20 19 0;pigeon a at 2 loud 1;pigeon b at 2 loud 1;");
        Checks.due("glide(0, left)", x.glide(0, false), 1);
        Checks.due("glide(0, left)", x.glide(0, false), 0);
        Checks.due("glide(1, right)", x.glide(1, true), 3);
        Checks.due("glide(1, right)", x.glide(1, true), 4);
        RoofPigeons y = Checks.taught("roofs 0 3 3 3 0;pigeon a at 2 loud 1;");
        Checks.noState("glide(0, left) to one as high", () -> y.glide(0, false));
        Checks.noState("glide(0, right) to one as high", () -> y.glide(0, true));
        RoofPigeons z = Checks.taught("roofs 0 4 3 4 0;pigeon a at 2 loud 1;");
        Checks.noState("glide(0, left) to a higher one", () -> z.glide(0, false));
        Checks.noState("glide(0, right) to a higher one", () -> z.glide(0, true));
    }

    private static void movesThatCannotBeDone() {
        RoofPigeons x = Checks.taught("roofs 5 2 5;pigeon a at 0 loud 1;pigeon b at 1 loud 1;pigeon c at 2 loud 1;");
        Checks.noState("hop(0, left) from the first", () -> x.hop(0, false));
        Checks.noState("hop(0, right): one as high", () -> x.hop(0, true));
        Checks.noState("hop(2, right) from the last", () -> x.hop(2, true));
        Checks.noState("hop(2, left): one as high", () -> x.hop(2, false));
        Checks.noState("glide(0, left) from the first", () -> x.glide(0, false));
        Checks.noState("glide(1, left) to a higher one", () -> x.glide(1, false));
        Checks.noState("glide(1, right) to a higher one", () -> x.glide(1, true));
        Checks.noState("glide(2, right) from the last", () -> x.glide(2, true));
        for (int pigeon = 0; pigeon < 3; pigeon++) {
            Checks.due("placeOf(" + pigeon + ")", x.placeOf(pigeon), pigeon);
        }
        RoofPigeons one = Checks.taught("roofs 0;pigeon a at 0 loud 1;");
        Checks.noState("hop(0, left) on one tower", () -> one.hop(0, false));
        Checks.noState("hop(0, right) on one tower", () -> one.hop(0, true));
        Checks.noState("glide(0, left) on one tower", () -> one.glide(0, false));
        Checks.noState("glide(0, right) on one tower", () -> one.glide(0, true));
    }

    private static void building() {
        RoofPigeons x = new RoofPigeons();
        for (int height = 1; height <= 20; height++) {
            x.build(0);
            Checks.due("heightOf(0)", x.heightOf(0), height);
        }
        Checks.noState("build(0) of 20", () -> x.build(0));
        Checks.due("heightOf(0)", x.heightOf(0), 20);
        RoofPigeons y = Checks.taught("roofs 0 19;build 0;build 1;");
        Checks.due("passDays(30): 20 and 1 orders", y.passDays(30), 21);
        Checks.due("heightOf(0)", y.heightOf(0), 20);
        Checks.due("heightOf(1)", y.heightOf(1), 20);
    }

    private static void wearing() {
        RoofPigeons x = Checks.taught("roofs 20;");
        for (int height = 19; height >= 0; height--) {
            x.wear(0);
            Checks.due("heightOf(0)", x.heightOf(0), height);
        }
        Checks.noState("wear(0) of 0", () -> x.wear(0));
        Checks.due("heightOf(0)", x.heightOf(0), 0);
        RoofPigeons y = Checks.taught("roofs 20 1;wear 0;wear 1;");
        Checks.due("passDays(30): 20 and 1 orders", y.passDays(30), 21);
        Checks.due("heightOf(0)", y.heightOf(0), 0);
        Checks.due("heightOf(1)", y.heightOf(1), 0);
    }

    private static void heightsThatDoNotChange() {
        RoofPigeons x = Checks.taught("roofs 20 0 19 1;");
        Checks.noState("build(0) of 20", () -> x.build(0));
        Checks.noState("wear(1) of 0", () -> x.wear(1));
        x.build(2);
        x.wear(3);
        Checks.noState("build(2) of 20", () -> x.build(2));
        Checks.noState("wear(3) of 0", () -> x.wear(3));
        int[] want = {20, 0, 20, 0};
        for (int tower = 0; tower < want.length; tower++) {
            Checks.due("heightOf(" + tower + ")", x.heightOf(tower), want[tower]);
        }
        Checks.due("passDays(1): no such order is carried out", Checks.taught("roofs 20 0;build 0;wear 1;").passDays(1), 0);
    }

    // ---- a day

    private static void ordersInTheirOrder() {
        RoofPigeons x = Checks.taught("roofs 0 1 2;pigeon a at 0 loud 1;hop a right;hop a right;glide a left;");
        Checks.due("passDays(1)", x.passDays(1), 3);
        Checks.due("placeOf(0)", x.placeOf(0), 1);
        RoofPigeons y = Checks.taught("roofs 0 1 2;pigeon a at 0 loud 1;glide a left;hop a right;hop a right;");
        Checks.due("passDays(1)", y.passDays(1), 2);
        Checks.due("placeOf(0)", y.placeOf(0), 2);
        // at the highest and at the lowest the order ahead decides
        Checks.due("passDays(1) from 20", Checks.taught("roofs 20;wear 0;build 0;").passDays(1), 2);
        Checks.due("passDays(1) from 20", Checks.taught("roofs 20;build 0;wear 0;").passDays(1), 1);
        Checks.due("passDays(1) from 0", Checks.taught("roofs 0;wear 0;build 0;").passDays(1), 1);
        Checks.due("passDays(1) from 0", Checks.taught("roofs 0;build 0;wear 0;").passDays(1), 2);
    }

    private static void testsAtTheirTurn() {
        RoofPigeons x = Checks.taught("roofs 0;build 0;build 0 when height(0)=1;build 0 when height(0)=1;build 0 when height(0)=2;");
        Checks.due("passDays(1)", x.passDays(1), 3);
        Checks.due("heightOf(0)", x.heightOf(0), 3);
        // a test may hold only ahead of the order before it
        Checks.due("passDays(1)", Checks.taught("roofs 0;build 0;build 0 when height(0)=0;").passDays(1), 1);
        Checks.due("passDays(1) without a test", Checks.taught("roofs 0;build 0;").passDays(1), 1);
        Checks.due("passDays(1) with one that never holds", Checks.taught("roofs 0;build 0 when 1=2;").passDays(1), 0);
        // the water of this day's building
        RoofPigeons y = Checks.taught("roofs 1 1 1;pigeon a at 1 loud 1;build 0;build 2 when rain=0;wear 1 when rain=1;hop a left when rain=2;");
        Checks.due("passDays(1)", y.passDays(1), 4);
        Checks.due("placeOf(0)", y.placeOf(0), 0);
    }

    private static void ordersThatComeToNothing() {
        RoofPigeons x = Checks.taught("roofs 20 0 20;pigeon a at 0 loud 1;pigeon b at 2 loud 1;hop a left;hop a right;hop b left;hop b right;"
                + "glide a left;glide b right;build 0;build 2;wear 1;");
        long digest = x.digest();
        Checks.due("passDays(30)", x.passDays(30), 0);
        Checks.due("ordersCarriedOut()", x.ordersCarriedOut(), 0);
        Checks.due("heightOf(1)", x.heightOf(1), 0);
        Checks.due("placeOf(0)", x.placeOf(0), 0);
        Checks.due("placeOf(1)", x.placeOf(1), 2);
        Checks.due("whether the day alone is another one", x.digest() == digest, false);
        // one that comes to nothing does not keep those behind it from their turn
        Checks.due("passDays(1)", Checks.taught("roofs 20;build 0;wear 0;build 0;build 0;").passDays(1), 2);
    }

    private static void orderedMoves() {
        String head = "roofs 3 1 2 1 3;pigeon a at 2 loud 1;pigeon b at 0 loud 2;pigeon c at 4 loud 3;";
        // what is wet is left at the end of the day, so each move is told by a second one
        Checks.due("hop left", Checks.taught(head + "hop a left;build 0 when place of a=0;").passDays(1), 2);
        Checks.due("hop right", Checks.taught(head + "hop a right;build 0 when place of a=4;").passDays(1), 2);
        Checks.due("glide left", Checks.taught(head + "glide a left;build 0 when place of a=1;").passDays(1), 2);
        Checks.due("glide right", Checks.taught(head + "glide a right;build 0 when place of a=3;").passDays(1), 2);
        Checks.due("glide right from the first", Checks.taught(head + "glide b right;build 0 when place of b=1;").passDays(1), 2);
        Checks.due("glide left from the last", Checks.taught(head + "glide c left;build 0 when place of c=3;").passDays(1), 2);
    }

    private static void dueBuilt(String sum, int towers, int tower) {
        RoofPigeons x = Checks.taught("roofs" + Checks.times(towers, " 5") + ";build " + sum + ";wear " + sum + " when day=1;wear " + sum
                + " when day=1;");
        String call = " of build " + sum + " of " + towers + " towers";
        Checks.due("passDays(1)" + call, x.passDays(1), 1);
        for (int other = 0; other < towers; other++) {
            Checks.due("heightOf(" + other + ")" + call, x.heightOf(other), other == tower ? 6 : 5);
        }
        // built once, worn twice
        Checks.due("passDays(1)" + call, x.passDays(1), 3);
        Checks.due("heightOf(" + tower + ")" + call, x.heightOf(tower), 5);
    }

    private static void towerByTheRemainder() {
        dueBuilt("0", 3, 0);
        dueBuilt("2", 3, 2);
        dueBuilt("3", 3, 0);
        dueBuilt("4", 3, 1);
        dueBuilt("-1", 3, 2);
        dueBuilt("-2", 3, 1);
        dueBuilt("-3", 3, 0);
        dueBuilt("-4", 3, 2);
        dueBuilt("15", 16, 15);
        dueBuilt("16", 16, 0);
        dueBuilt("-16", 16, 0);
        dueBuilt("-1", 16, 15);
        dueBuilt("999999", 1, 0);
        dueBuilt("-7", 1, 0);
        // 2147483647 is 3 * 715827882 + 1, and -2147483648 is 3 * -715827883 + 1
        dueBuilt("46341*46340+41707", 3, 1);
        dueBuilt("46341*46340+41707+1", 3, 1);
        // 2147483647 is 5 * 429496729 + 2, and -2147483648 is 5 * -429496730 + 2
        dueBuilt("46341*46340+41707", 5, 2);
        dueBuilt("32768*65536", 5, 2);
        dueBuilt("32768*65536", 16, 0);
    }

    private static void eachIsCarriedOut() {
        Checks.due("passDays(1) without orders", Checks.taught("roofs 0;").passDays(1), 0);
        RoofPigeons x = Checks.taught("roofs 0 1;pigeon a at 0 loud 1;" + Checks.times(4, "hop a right;glide a left;build 1;wear 1;"));
        Checks.due("passDays(1) of 16 orders", x.passDays(1), 16);
        Checks.due("ordersCarriedOut()", x.ordersCarriedOut(), 16);
        Checks.due("placeOf(0)", x.placeOf(0), 0);
        // a flight is none
        RoofPigeons y = Checks.taught("roofs 1 0 1;pigeon a at 1 loud 1;");
        Checks.due("passDays(1) with a flight", y.passDays(1), 0);
        Checks.due("placeOf(0)", y.placeOf(0), 0);
    }

    private static void duePlaces(String text, int... want) {
        RoofPigeons x = Checks.taught(text);
        x.passDays(1);
        for (int pigeon = 0; pigeon < want.length; pigeon++) {
            Checks.due("placeOf(" + pigeon + ") a day on of " + text, x.placeOf(pigeon), want[pigeon]);
        }
    }

    private static void flights() {
        // 2 of 5 to the right, 3 to the left; and the other way round
        duePlaces("roofs 9 1 1 1 1 9;pigeon a at 1 loud 1;pigeon b at 2 loud 1;pigeon c at 3 loud 1;pigeon d at 4 loud 1;", 0, 0, 5, 5);
        duePlaces("roofs 9 1 9;pigeon a at 0 loud 1;pigeon b at 1 loud 1;pigeon c at 2 loud 1;", 0, 0, 2);
        // no water: all stay, at either end as well
        duePlaces("roofs 4 4 5 0;pigeon a at 0 loud 1;pigeon b at 1 loud 1;pigeon c at 3 loud 1;", 0, 1, 3);
        duePlaces("roofs 0;pigeon a at 0 loud 1;", 0);
        // a dry one between two pools
        duePlaces("roofs 9 1 1 9 1 1 1 20;pigeon a at 2 loud 1;pigeon b at 4 loud 1;pigeon c at 6 loud 1;", 3, 3, 7);
        // a single pool from end to end: 7 is 7 off the first and 8 off the last
        duePlaces(WIDEST_POOL + "pigeon a at 7 loud 1;pigeon b at 8 loud 1;pigeon c at 1 loud 1;pigeon d at 14 loud 1;", 0, 15, 0, 15);
        // the water at the end of the orders counts
        duePlaces("roofs 1 1 1;pigeon a at 1 loud 1;wear 1;", 0);
        duePlaces("roofs 1 0 1;pigeon a at 1 loud 1;build 1;", 1);
    }

    private static void flightsOfTwoAsNear() {
        duePlaces("roofs 2 1 2;pigeon a at 1 loud 1;", 0);
        duePlaces("roofs 9 1 1 1 9;pigeon a at 2 loud 1;", 0);
        duePlaces("roofs 0 3 1 1 1 20 0;pigeon a at 3 loud 1;", 1);
        duePlaces("roofs 20 0 0 0 0 0 0 0 0 0 0 0 0 0 20;pigeon a at 7 loud 1;", 0);
    }

    private static void dayGreater() {
        RoofPigeons x = Checks.taught("roofs 0;build 0 when day=0;build 0 when day=0;build 0 when day=1;");
        Checks.due("passDays(1): it is day 0 for all orders", x.passDays(1), 2);
        Checks.due("day()", x.day(), 1);
        Checks.due("passDays(1)", x.passDays(1), 1);
        Checks.due("day()", x.day(), 2);
        Checks.due("passDays(30)", x.passDays(30), 0);
        Checks.due("day()", x.day(), 32);
    }

    // ---- tests and sums

    /** Checks whether a test holds behind the head of a skyline that has no order as yet, and a tower 0 that can be built. */
    private static void dueHolds(String head, String test, boolean want) {
        RoofPigeons x = Checks.taught(head + "build 0 when " + test + ";");
        Checks.due("passDays(1) of " + head + "build 0 when " + test, x.passDays(1), want ? 1 : 0);
    }

    private static void valueOfDay() {
        dueHolds("roofs 0;", "day=0", true);
        dueHolds("roofs 0;", "day=1", false);
        RoofPigeons x = Checks.taught("roofs 0 0;build day when day=1;build day when day=30;");
        Checks.due("passDays(30)", x.passDays(30), 1);
        Checks.due("heightOf(1)", x.heightOf(1), 1);
        Checks.due("passDays(1)", x.passDays(1), 1);
        Checks.due("heightOf(0)", x.heightOf(0), 1);
    }

    private static void valueOfRain() {
        dueHolds("roofs 0;", "rain=0", true);
        dueHolds("roofs 1 0 1;", "rain=1", true);
        dueHolds("roofs 19 0 0 0 0 0 0 0 0 0 0 0 0 0 0 20;", "rain=266", true);
        RoofPigeons x = Checks.taught(WIDEST_POOL + "wear 0 when rain=280;");
        Checks.due("passDays(1) of the most rain", x.passDays(1), 1);
    }

    private static void valueOfSeen() {
        dueHolds("roofs 0;", "seen=1", true);
        dueHolds("roofs 0 0 0;", "seen=1", true);
        dueHolds("roofs 3 2 1;", "seen=1", true);
        dueHolds("roofs 0 1 2 3 4 5 6 7 8 9 10 11 12 13 14 15;", "seen=16", true);
    }

    private static void valueOfTowers() {
        dueHolds("roofs 0;", "towers=1", true);
        dueHolds(WIDE_PLAIN, "towers=16", true);
    }

    private static void valueOfNoise() {
        dueHolds("roofs 0;pigeon a at 0 loud 9;", "noise of a=0", true);
        dueHolds("roofs 0;pigeon a at 0 loud 9;pigeon b at 0 loud 1;", "noise of a=1", true);
        dueHolds("roofs 0;pigeon a at 0 loud 9;pigeon b at 0 loud 1;", "noise of b=9", true);
        dueHolds("roofs 0 1 0;pigeon a at 0 loud 9;pigeon b at 2 loud 1;", "noise of a=0", true);
        StringBuilder text = new StringBuilder("roofs 0;");
        for (int pigeon = 0; pigeon < 8; pigeon++) {
            text.append("pigeon p").append(pigeon).append(" at 0 loud 9;");
        }
        dueHolds(text.toString(), "noise of p7=63", true);
    }

    private static void valueOfPlace() {
        dueHolds("roofs 0;pigeon a at 0 loud 1;", "place of a=0", true);
        String head = WIDE_PLAIN + "pigeon a at 15 loud 1;pigeon b at 3 loud 2;";
        dueHolds(head, "place of a=15", true);
        dueHolds(head, "place of b=3", true);
    }

    private static void valueOfHeight() {
        String head = "roofs 3 0 20;";
        String[] holding = {
            "height(0)=3", "height(1)=0", "height(2)=20", "height(3)=3", "height(4)=0", "height(-1)=20", "height(-2)=0", "height(-3)=3",
            "height(-4)=20", "height(999999)=3", "height(46341*46340+41707)=0", "height(32768*65536)=0", "height(day)=3",
        };
        for (String test : holding) {
            dueHolds(head, test, true);
        }
        dueHolds("roofs 7;", "height(999999)=7 and height(-999999)=7", true);
    }

    private static void whetherHears() {
        // b is heard everywhere, a and c on 0 and 1, d on 0 to 2
        String head = "roofs 0 2 3 1;pigeon a at 0 loud 1;pigeon b at 2 loud 1;pigeon c at 0 loud 1;pigeon d at 1 loud 1;";
        dueHolds(head, "hears a b", true);
        dueHolds(head, "hears b a", false);
        dueHolds(head, "hears b d", true);
        dueHolds(head, "hears a c", true);
        dueHolds(head, "hears c a", true);
        dueHolds(head, "hears a a", false);
        dueHolds(head, "hears b b", false);
        dueHolds("roofs 0;pigeon a at 0 loud 1;", "hears a a", false);
    }

    private static void whetherOver() {
        String head = "roofs 4 5 4;pigeon a at 0 loud 1;pigeon b at 1 loud 1;pigeon c at 2 loud 1;pigeon d at 0 loud 1;";
        dueHolds(head, "over b a", true);
        dueHolds(head, "over a b", false);
        dueHolds(head, "over a c", false);
        dueHolds(head, "over c a", false);
        dueHolds(head, "over a d", false);
        dueHolds(head, "over b b", false);
        dueHolds("roofs 0 20;pigeon a at 0 loud 1;pigeon b at 1 loud 1;", "over b a", true);
        dueHolds("roofs 0 20;pigeon a at 0 loud 1;pigeon b at 1 loud 1;", "over a b", false);
    }

    private static void whetherDry() {
        String head = "roofs 1 0 1;";
        String[] dry = {"0", "2", "3", "5", "-1", "-3", "999999", "1+1"};
        for (String sum : dry) {
            dueHolds(head, "dry " + sum, true);
        }
        // 2147483647 and -2147483648 both leave 1
        String[] wet = {"1", "4", "-2", "-5", "1000*1000", "46341*46340+41707", "32768*65536"};
        for (String sum : wet) {
            dueHolds(head, "dry " + sum, false);
        }
        dueHolds("roofs 0;", "dry 0 and dry 1 and dry -1", true);
    }

    private static void bothSides() {
        String[] sides = {"1=1", "1=2"};
        for (String left : sides) {
            for (String right : sides) {
                boolean isLeft = left.equals("1=1");
                boolean isRight = right.equals("1=1");
                dueHolds("roofs 0;", left + " and " + right, isLeft && isRight);
                dueHolds("roofs 0;", left + " or " + right, isLeft || isRight);
                // a division by 0 on a side that does not matter
                dueHolds("roofs 0;", left + " and 1/0=0 and " + right, isLeft && isRight);
                dueHolds("roofs 0;", left + " or 1/0=1 or " + right, isLeft || isRight);
            }
        }
        dueHolds("roofs 0;", Checks.times(90, "1=1 and ") + "1=2", false);
        dueHolds("roofs 0;", Checks.times(90, "1=2 or ") + "1=1", true);
    }

    private static void andMoreThanOr() {
        dueHolds("roofs 0;", "1=1 or 1=1 and 1=2", true);
        dueHolds("roofs 0;", "1=2 and 1=1 or 1=1", true);
        dueHolds("roofs 0;", "[1=1 or 1=1] and 1=2", false);
        dueHolds("roofs 0;", "1=2 and [1=1 or 1=1]", false);
        dueHolds("roofs 0;", "1=1 or 1=2 and 1=2 or 1=2", true);
    }

    private static void notMoreThanAnd() {
        dueHolds("roofs 0;", "not 1=2 and 1=2", false);
        dueHolds("roofs 0;", "not [1=2 and 1=2]", true);
        dueHolds("roofs 0;", "not 1=1 or 1=1", true);
        dueHolds("roofs 0;", "not [1=1 or 1=1]", false);
        dueHolds("roofs 0;", "not not 1=1 and 1=1", true);
        dueHolds("roofs 0;", "1=1 and not 1=2", true);
    }

    // ---- exceptions

    /** One with a full tape, an error told, and a day gone by. */
    private static RoofPigeons full() {
        RoofPigeons x = Checks.taught("roofs 20 1 0 20;pigeon a at 0 loud 1;pigeon b at 3 loud 2;build day+1 when day<9;wear 0 when day=12;");
        x.passDays(1);
        Checks.teach(x, "roofs 1;hop b left;");
        Checks.type(x, "roofs 7 8;" + Checks.times(1990, " "));
        return x;
    }

    private static void nothingIsChanged() {
        RoofPigeons x = full();
        Checks.noState("feed", () -> x.feed(0, 0, 0, 0, 0));
        Checks.noArgument("trim(-1)", () -> x.trim(-1));
        Checks.noArgument("trim(2001)", () -> x.trim(2001));
        refuseTowers(x);
        refusePigeons(x);
        Checks.noState("hop(0, left)", () -> x.hop(0, false));
        Checks.noState("hop(1, right)", () -> x.hop(1, true));
        Checks.noState("glide(0, left)", () -> x.glide(0, false));
        Checks.noState("glide(1, right)", () -> x.glide(1, true));
        Checks.noState("build(0)", () -> x.build(0));
        Checks.noState("wear(2)", () -> x.wear(2));
        Checks.noArgument("passDays(0)", () -> x.passDays(0));
        Checks.noArgument("passDays(31)", () -> x.passDays(31));
        Checks.noArgument("trappedAfter(0)", () -> x.trappedAfter(0));
        Checks.noArgument("trappedAfter(31)", () -> x.trappedAfter(31));
        Checks.noArgument("trappedWith(1, -1)", () -> x.trappedWith(1, -1));
        Checks.noArgument("trappedWith(1, 21)", () -> x.trappedWith(1, 21));
        dueAlike(x, full());
    }

    private static void refuseTowers(RoofPigeons x) {
        for (int tower : new int[] {-1, 4, Integer.MIN_VALUE, Integer.MAX_VALUE}) {
            Checks.noIndex("heightOf", () -> x.heightOf(tower));
            Checks.noIndex("isSeenFromLeft", () -> x.isSeenFromLeft(tower));
            Checks.noIndex("nextTallerLeft", () -> x.nextTallerLeft(tower));
            Checks.noIndex("nextTallerRight", () -> x.nextTallerRight(tower));
            Checks.noIndex("waterOn", () -> x.waterOn(tower));
            Checks.noIndex("pigeonsOn", () -> x.pigeonsOn(tower));
            Checks.noIndex("heardOn", () -> x.heardOn(tower));
            Checks.noIndex("build", () -> x.build(tower));
            Checks.noIndex("wear", () -> x.wear(tower));
            Checks.noIndex("trappedWith", () -> x.trappedWith(tower, 5));
        }
    }

    private static void refusePigeons(RoofPigeons x) {
        for (int pigeon : new int[] {-1, 2, Integer.MIN_VALUE, Integer.MAX_VALUE}) {
            Checks.noIndex("placeOf", () -> x.placeOf(pigeon));
            Checks.noIndex("loudnessOf", () -> x.loudnessOf(pigeon));
            Checks.noIndex("hears", () -> x.hears(pigeon, 0));
            Checks.noIndex("hears", () -> x.hears(0, pigeon));
            Checks.noIndex("noiseAt", () -> x.noiseAt(pigeon));
            Checks.noIndex("hop", () -> x.hop(pigeon, true));
            Checks.noIndex("glide", () -> x.glide(pigeon, true));
            Checks.noIndex("daysUntilHeard", () -> x.daysUntilHeard(pigeon, 0));
            Checks.noIndex("daysUntilHeard", () -> x.daysUntilHeard(0, pigeon));
            Checks.noIndex("quietestTower", () -> x.quietestTower(pigeon));
        }
    }

    private static void dueAlike(RoofPigeons x, RoofPigeons y) {
        Checks.due("digest()", x.digest(), y.digest());
        Checks.due("errorAt()", x.errorAt(), 12);
        Checks.due("trappedAfter(20)", x.trappedAfter(20), y.trappedAfter(20));
        Checks.due("passDays(7)", x.passDays(7), y.passDays(7));
        Checks.due("digest() behind passDays(7)", x.digest(), y.digest());
        Checks.due("passDays(30)", x.passDays(30), y.passDays(30));
        Checks.due("digest() behind passDays(30)", x.digest(), y.digest());
        Checks.due("trim(2000)", x.trim(2000), 2000);
        Checks.due("teach()", x.teach(), 0);
        Checks.due("heightOf(0)", x.heightOf(0), 7);
        Checks.due("heightOf(1)", x.heightOf(1), 8);
    }

    private static void theOneNamedFirst() {
        RoofPigeons x = Checks.taught("roofs 20 0 20;");
        for (int tower : new int[] {-1, 3}) {
            for (int height : new int[] {-1, 21}) {
                Checks.noIndex("trappedWith(" + tower + ", " + height + ")", () -> x.trappedWith(tower, height));
            }
        }
        Checks.noArgument("trappedWith(0, -1)", () -> x.trappedWith(0, -1));
        // there is no such pigeon or tower, so nothing can be done with it either
        Checks.noIndex("hop(0, right)", () -> x.hop(0, true));
        Checks.noIndex("glide(0, left)", () -> x.glide(0, false));
        Checks.noIndex("build(3)", () -> x.build(3));
        Checks.noIndex("wear(-1)", () -> x.wear(-1));
    }
}
