/** Promises 6, 10 to 20, 30, 31, 35, 36 and 38: towers, rain, and building by hand. */
public final class TowersTest {
    /** Water stands 3 high on tower 1, 1 on 2, 4 on 4 and 5, 1 on 6, and 5 on 7. */
    private static final String CITY = "roofs 3 0 2 5 1 1 4 0 6 2;";

    public static void main(String[] args) {
        towers();
        trapped();
        wetTowers();
        widestPool();
        highest();
        seenFromLeft();
        seenFromRight();
        heightOf();
        isSeenFromLeft();
        nextTallerLeft();
        nextTallerRight();
        waterOn();
        build();
        wear();
        trappedWith();
        bestToBuild();
        meanHeight();
        asManyAsCanBe();
        Checks.end();
    }

    private static void towers() {
        Checks.due("towers() of one", Checks.taught("roofs 7;").towers(), 1);
        Checks.due("towers() of ten", Checks.taught(CITY).towers(), 10);
        Checks.due("towers() of 16", Checks.taught("roofs 1 2 3 4 5 6 7 8 9 10 11 12 13 14 15 16;").towers(), 16);
    }

    private static void trapped() {
        Checks.due("trapped()", Checks.taught(CITY).trapped(), 18);
        Checks.due("trapped() of one", Checks.taught("roofs 20;").trapped(), 0);
        Checks.due("trapped() of two", Checks.taught("roofs 20 0;").trapped(), 0);
        Checks.due("trapped() of three", Checks.taught("roofs 4 1 2;").trapped(), 1);
        Checks.due("trapped() of three", Checks.taught("roofs 2 1 4;").trapped(), 1);
        Checks.due("trapped() of a mountain", Checks.taught("roofs 1 2 3 2 1;").trapped(), 0);
        Checks.due("trapped() of a plain", Checks.taught("roofs 4 4 4 4;").trapped(), 0);
        Checks.due("trapped() of stairs", Checks.taught("roofs 9 8 7 6;").trapped(), 0);
        Checks.due("trapped() beyond lower towers", Checks.taught("roofs 9 0 1 0 8;").trapped(), 23);
        Checks.due("trapped() at most", Checks.taught("roofs 20 0 0 0 0 0 0 0 0 0 0 0 0 0 0 20;").trapped(), 280);
    }

    private static void wetTowers() {
        Checks.due("wetTowers()", Checks.taught(CITY).wetTowers(), 6);
        Checks.due("wetTowers() of one", Checks.taught("roofs 3;").wetTowers(), 0);
        Checks.due("wetTowers() of stairs", Checks.taught("roofs 1 2 3;").wetTowers(), 0);
        Checks.due("wetTowers() of two pools", Checks.taught("roofs 3 2 3 2 2 3;").wetTowers(), 3);
        Checks.due("wetTowers() at most", Checks.taught("roofs 1 0 0 0 0 0 0 0 0 0 0 0 0 0 0 1;").wetTowers(), 14);
    }

    private static void widestPool() {
        Checks.due("widestPool()", Checks.taught(CITY).widestPool(), 4);
        Checks.due("widestPool() of none", Checks.taught("roofs 3 3 1;").widestPool(), 0);
        Checks.due("widestPool(): the first one", Checks.taught("roofs 3 2 2 3 2 3;").widestPool(), 2);
        Checks.due("widestPool(): the last one", Checks.taught("roofs 3 2 3 2 2 1 3;").widestPool(), 3);
        Checks.due("widestPool() of the same", Checks.taught("roofs 3 2 3 2 3;").widestPool(), 1);
        Checks.due("widestPool() at different heights", Checks.taught("roofs 5 0 3 1 4;").widestPool(), 3);
    }

    private static void highest() {
        Checks.due("highest()", Checks.taught(CITY).highest(), 8);
        Checks.due("highest() of several", Checks.taught("roofs 1 5 2 5 5;").highest(), 1);
        Checks.due("highest() of the same", Checks.taught("roofs 0 0 0;").highest(), 0);
        Checks.due("highest(): the last", Checks.taught("roofs 0 1 2;").highest(), 2);
    }

    private static void seenFromLeft() {
        Checks.due("seenFromLeft()", Checks.taught(CITY).seenFromLeft(), 3);
        Checks.due("seenFromLeft() of zeros", Checks.taught("roofs 0 0 0;").seenFromLeft(), 1);
        Checks.due("seenFromLeft() of equals", Checks.taught("roofs 2 2 3 3 1;").seenFromLeft(), 2);
        Checks.due("seenFromLeft() of stairs", Checks.taught("roofs 0 1 2 3;").seenFromLeft(), 4);
        Checks.due("seenFromLeft() of stairs down", Checks.taught("roofs 3 2 1;").seenFromLeft(), 1);
    }

    private static void seenFromRight() {
        Checks.due("seenFromRight()", Checks.taught(CITY).seenFromRight(), 2);
        Checks.due("seenFromRight() of zeros", Checks.taught("roofs 0 0 0;").seenFromRight(), 1);
        Checks.due("seenFromRight() of equals", Checks.taught("roofs 1 3 3 2 2;").seenFromRight(), 2);
        Checks.due("seenFromRight() of stairs", Checks.taught("roofs 0 1 2 3;").seenFromRight(), 1);
        Checks.due("seenFromRight() of stairs down", Checks.taught("roofs 3 2 1 0;").seenFromRight(), 4);
    }

    private static void heightOf() {
        RoofPigeons x = Checks.taught("roofs 3 0 20;");
        Checks.due("heightOf(0)", x.heightOf(0), 3);
        Checks.due("heightOf(1)", x.heightOf(1), 0);
        Checks.due("heightOf(2)", x.heightOf(2), 20);
        Checks.noIndex("heightOf(-1)", () -> x.heightOf(-1));
        Checks.noIndex("heightOf(3)", () -> x.heightOf(3));
        Checks.noIndex("heightOf(least)", () -> x.heightOf(Integer.MIN_VALUE));
        Checks.noIndex("heightOf(most)", () -> x.heightOf(Integer.MAX_VALUE));
        RoofPigeons full = Checks.taught("roofs 1 2 3 4 5 6 7 8 9 10 11 12 13 14 15 16;");
        Checks.due("heightOf(15)", full.heightOf(15), 16);
        Checks.noIndex("heightOf(16)", () -> full.heightOf(16));
    }

    private static void isSeenFromLeft() {
        RoofPigeons x = Checks.taught("roofs 2 2 3 1 3 4;");
        boolean[] want = {true, false, true, false, false, true};
        for (int k = 0; k < want.length; k++) {
            Checks.due("isSeenFromLeft(" + k + ")", x.isSeenFromLeft(k), want[k]);
        }
        Checks.due("isSeenFromLeft(0) of height 0", new RoofPigeons().isSeenFromLeft(0), true);
        Checks.noIndex("isSeenFromLeft(-1)", () -> x.isSeenFromLeft(-1));
        Checks.noIndex("isSeenFromLeft(6)", () -> x.isSeenFromLeft(6));
    }

    private static void nextTallerLeft() {
        RoofPigeons x = Checks.taught(CITY);
        int[] want = {-1, 0, 0, -1, 3, 3, 3, 6, -1, 8};
        for (int k = 0; k < want.length; k++) {
            Checks.due("nextTallerLeft(" + k + ")", x.nextTallerLeft(k), want[k]);
        }
        Checks.due("nextTallerLeft() of an equal one", Checks.taught("roofs 3 2 2;").nextTallerLeft(2), 0);
        Checks.noIndex("nextTallerLeft(-1)", () -> x.nextTallerLeft(-1));
        Checks.noIndex("nextTallerLeft(10)", () -> x.nextTallerLeft(10));
    }

    private static void nextTallerRight() {
        RoofPigeons x = Checks.taught(CITY);
        int[] want = {3, 2, 3, 8, 6, 6, 8, 8, -1, -1};
        for (int k = 0; k < want.length; k++) {
            Checks.due("nextTallerRight(" + k + ")", x.nextTallerRight(k), want[k]);
        }
        Checks.due("nextTallerRight() of an equal one", Checks.taught("roofs 2 2 3;").nextTallerRight(0), 2);
        Checks.noIndex("nextTallerRight(-1)", () -> x.nextTallerRight(-1));
        Checks.noIndex("nextTallerRight(10)", () -> x.nextTallerRight(10));
    }

    private static void waterOn() {
        RoofPigeons x = Checks.taught(CITY);
        int[] want = {0, 3, 1, 0, 4, 4, 1, 5, 0, 0};
        for (int k = 0; k < want.length; k++) {
            Checks.due("waterOn(" + k + ")", x.waterOn(k), want[k]);
        }
        Checks.noIndex("waterOn(-1)", () -> x.waterOn(-1));
        Checks.noIndex("waterOn(10)", () -> x.waterOn(10));
    }

    private static void build() {
        RoofPigeons x = Checks.taught("roofs 5 1 4 19;");
        Checks.due("build(2)", x.build(2), 4);
        Checks.due("heightOf(2)", x.heightOf(2), 5);
        Checks.due("build(1)", x.build(1), 3);
        Checks.due("build(3)", x.build(3), 3);
        Checks.due("heightOf(3)", x.heightOf(3), 20);
        Checks.noState("build(3) of height 20", () -> x.build(3));
        Checks.due("heightOf(3)", x.heightOf(3), 20);
        Checks.noIndex("build(-1)", () -> x.build(-1));
        Checks.noIndex("build(4)", () -> x.build(4));
        Checks.due("ordersCarriedOut(): by hand is no order", x.ordersCarriedOut(), 0);
        Checks.due("day()", x.day(), 0);
        Checks.due("build(0): all follows the height", x.build(0), 5);
        Checks.due("nextTallerLeft(2)", x.nextTallerLeft(2), 0);
        Checks.due("waterOn(1)", x.waterOn(1), 4);
        Checks.due("waterOn(2)", x.waterOn(2), 1);
        Checks.due("seenFromRight()", x.seenFromRight(), 1);
    }

    private static void wear() {
        RoofPigeons x = Checks.taught("roofs 2 1 20;");
        Checks.due("wear(1)", x.wear(1), 2);
        Checks.due("heightOf(1)", x.heightOf(1), 0);
        Checks.noState("wear(1) of height 0", () -> x.wear(1));
        Checks.due("heightOf(1)", x.heightOf(1), 0);
        Checks.due("wear(0)", x.wear(0), 1);
        Checks.due("wear(2)", x.wear(2), 1);
        Checks.due("heightOf(2)", x.heightOf(2), 19);
        Checks.due("wear(0)", x.wear(0), 0);
        Checks.due("wetTowers()", x.wetTowers(), 0);
        Checks.noState("wear(0) of height 0", () -> x.wear(0));
        Checks.noIndex("wear(-1)", () -> x.wear(-1));
        Checks.noIndex("wear(3)", () -> x.wear(3));
        Checks.due("ordersCarriedOut()", x.ordersCarriedOut(), 0);
    }

    private static void trappedWith() {
        RoofPigeons x = Checks.taught("roofs 3 0 2 5; pigeon a at 1 loud 3;");
        long digest = x.digest();
        Checks.due("trappedWith(1, 0): as it is", x.trappedWith(1, 0), 4);
        Checks.due("trappedWith(1, 20)", x.trappedWith(1, 20), 3);
        Checks.due("trappedWith(0, 20)", x.trappedWith(0, 20), 8);
        Checks.due("trappedWith(3, 0)", x.trappedWith(3, 0), 2);
        Checks.due("trappedWith(2, 3)", x.trappedWith(2, 3), 3);
        Checks.due("digest(): nothing is changed", x.digest(), digest);
        Checks.noIndex("trappedWith(-1, 0)", () -> x.trappedWith(-1, 0));
        Checks.noIndex("trappedWith(4, 0)", () -> x.trappedWith(4, 0));
        Checks.noArgument("trappedWith(0, -1)", () -> x.trappedWith(0, -1));
        Checks.noArgument("trappedWith(0, 21)", () -> x.trappedWith(0, 21));
        Checks.noIndex("trappedWith(4, 21): the first one named", () -> x.trappedWith(4, 21));
        Checks.noArgument("trappedWith(3, least)", () -> x.trappedWith(3, Integer.MIN_VALUE));
        Checks.noArgument("trappedWith(3, most)", () -> x.trappedWith(3, Integer.MAX_VALUE));
    }

    private static void bestToBuild() {
        Checks.due("bestToBuild()", Checks.taught("roofs 3 0 2;").bestToBuild(), 2);
        // 3 0 0 3 0 4 traps 9, 2 0 0 4 0 4 only 8, more than the 7 of now
        Checks.due("bestToBuild(): the most, not the last that is more", Checks.taught("roofs 2 0 0 3 0 4;").bestToBuild(), 0);
        Checks.due("bestToBuild() of several", Checks.taught("roofs 1 0 1;").bestToBuild(), 0);
        Checks.due("bestToBuild() of a plain", Checks.taught("roofs 4 4 4 4;").bestToBuild(), 0);
        Checks.due("bestToBuild() where it loses", Checks.taught("roofs 20 0 20;").bestToBuild(), 1);
        Checks.due("bestToBuild() where the first cannot", Checks.taught("roofs 20 20 19;").bestToBuild(), 2);
        Checks.due("bestToBuild() of none", Checks.taught("roofs 20 20;").bestToBuild(), -1);
        Checks.due("bestToBuild() of one", Checks.taught("roofs 19;").bestToBuild(), 0);
        RoofPigeons x = Checks.taught("roofs 3 0 2 5 1 1 4 0 6 2; pigeon a at 4 loud 1;");
        long digest = x.digest();
        Checks.due("bestToBuild()", x.bestToBuild(), 3);
        Checks.due("digest(): nothing is changed", x.digest(), digest);
    }

    private static void meanHeight() {
        Checks.due("meanHeight()", Checks.taught(CITY).meanHeight(), 2.4);
        Checks.due("meanHeight() of zero", new RoofPigeons().meanHeight(), 0.0);
        Checks.due("meanHeight() of 1 and 2", Checks.taught("roofs 1 2;").meanHeight(), 1.5);
        Checks.due("meanHeight() of a third", Checks.taught("roofs 1 0 0;").meanHeight(), 1.0 / 3);
        RoofPigeons x = Checks.taught("roofs 1 2 2;");
        x.wear(0);
        Checks.due("meanHeight() behind wear", x.meanHeight(), 4.0 / 3);
    }

    /** 16 towers, with 8 pigeons and 16 orders: each row is full. */
    private static void asManyAsCanBe() {
        StringBuilder text = new StringBuilder("roofs 1 2 3 4 5 6 7 8 8 7 6 5 4 3 2 20;");
        for (int k = 0; k < 8; k++) {
            text.append("pigeon p").append(k).append(" at ").append(2 * k + 1).append(" loud 1;");
        }
        for (int k = 0; k < 16; k++) {
            text.append("build ").append(k).append(" when place of p7 = 15;");
        }
        RoofPigeons x = Checks.taught(text.toString());
        Checks.due("trapped() of 16", x.trapped(), 21);
        Checks.due("wetTowers() of 16", x.wetTowers(), 6);
        Checks.due("widestPool() of 16", x.widestPool(), 6);
        Checks.due("highest() of 16", x.highest(), 15);
        Checks.due("seenFromLeft() of 16", x.seenFromLeft(), 9);
        Checks.due("seenFromRight() of 16", x.seenFromRight(), 1);
        Checks.due("nextTallerRight(14)", x.nextTallerRight(14), 15);
        Checks.due("nextTallerLeft(15)", x.nextTallerLeft(15), -1);
        Checks.due("pigeonsOn(15)", x.pigeonsOn(15), 1);
        Checks.due("heardOn(15)", x.heardOn(15), 5);
        Checks.due("quietest() of 8", x.quietest(), 3);
        Checks.due("bestToBuild() of 16", x.bestToBuild(), 7);
        Checks.due("meanHeight() of 16", x.meanHeight(), 91.0 / 16);
        Checks.noState("build(15)", () -> x.build(15));
        Checks.due("passDays(1): all but the highest", x.passDays(1), 15);
        Checks.due("placeOf(4): on 8, of 7 and 8 the one that is dry", x.placeOf(4), 8);
        Checks.due("placeOf(7)", x.placeOf(7), 15);
        Checks.due("passDays(30)", x.passDays(30), 214);
        Checks.due("meanHeight() of 20 on each", x.meanHeight(), 20.0);
        Checks.due("bestToBuild() of 20 on each", x.bestToBuild(), -1);
        Checks.due("quietestTower(7)", x.quietestTower(7), 0);
    }
}
