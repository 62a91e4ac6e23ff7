import java.util.ArrayList;
import java.util.List;

/** Promises 7, 21 to 29, 37 and 39: pigeons, their noise, and hopping and gliding by hand. */
public final class PigeonsTest {
    /** a is heard on 0 to 1, b on 0 to 2, c and d on 2 to 4. */
    private static final String CITY = "roofs 1 4 6 2 3;"
            + " pigeon a at 0 loud 1; pigeon b at 1 loud 2; pigeon c at 3 loud 4; pigeon d at 4 loud 8;";

    public static void main(String[] args) {
        pigeons();
        pigeonsOn();
        heardOn();
        placeOf();
        loudnessOf();
        hears();
        noiseAt();
        quietest();
        hop();
        glide();
        quietestTower();
        digest();
        Checks.end();
    }

    private static void pigeons() {
        Checks.due("pigeons()", Checks.taught("roofs 1;").pigeons(), 0);
        Checks.due("pigeons()", Checks.taught(CITY).pigeons(), 4);
    }

    private static void pigeonsOn() {
        RoofPigeons x = Checks.taught("roofs 1 2 3; pigeon a at 1 loud 1; pigeon b at 2 loud 1; pigeon c at 1 loud 1;");
        Checks.due("pigeonsOn(0)", x.pigeonsOn(0), 0);
        Checks.due("pigeonsOn(1)", x.pigeonsOn(1), 2);
        Checks.due("pigeonsOn(2)", x.pigeonsOn(2), 1);
        x.hop(0, true);
        Checks.due("pigeonsOn(1) behind hop", x.pigeonsOn(1), 1);
        Checks.due("pigeonsOn(2) behind hop", x.pigeonsOn(2), 2);
        Checks.noIndex("pigeonsOn(-1)", () -> x.pigeonsOn(-1));
        Checks.noIndex("pigeonsOn(3)", () -> x.pigeonsOn(3));
    }

    private static void heardOn() {
        RoofPigeons x = Checks.taught(CITY);
        // the next taller tower itself is heard on as well
        int[] want = {2, 2, 3, 2, 2};
        for (int k = 0; k < want.length; k++) {
            Checks.due("heardOn(" + k + ")", x.heardOn(k), want[k]);
        }
        RoofPigeons plain = Checks.taught("roofs 2 2 1 2; pigeon a at 1 loud 1;");
        for (int k = 0; k < 4; k++) {
            Checks.due("heardOn(" + k + ") over towers not taller", plain.heardOn(k), 1);
        }
        Checks.noIndex("heardOn(-1)", () -> x.heardOn(-1));
        Checks.noIndex("heardOn(5)", () -> x.heardOn(5));
    }

    private static void placeOf() {
        RoofPigeons x = Checks.taught(CITY);
        int[] want = {0, 1, 3, 4};
        for (int k = 0; k < want.length; k++) {
            Checks.due("placeOf(" + k + ")", x.placeOf(k), want[k]);
        }
        Checks.noIndex("placeOf(-1)", () -> x.placeOf(-1));
        Checks.noIndex("placeOf(4)", () -> x.placeOf(4));
        Checks.noIndex("placeOf(8)", () -> x.placeOf(8));
        Checks.noIndex("placeOf(least)", () -> x.placeOf(Integer.MIN_VALUE));
        Checks.noIndex("placeOf(most)", () -> x.placeOf(Integer.MAX_VALUE));
    }

    private static void loudnessOf() {
        RoofPigeons x = Checks.taught(CITY);
        int[] want = {1, 2, 4, 8};
        for (int k = 0; k < want.length; k++) {
            Checks.due("loudnessOf(" + k + ")", x.loudnessOf(k), want[k]);
        }
        Checks.noIndex("loudnessOf(-1)", () -> x.loudnessOf(-1));
        Checks.noIndex("loudnessOf(4)", () -> x.loudnessOf(4));
    }

    private static void hears() {
        RoofPigeons x = Checks.taught(CITY);
        boolean[][] want = {
            {false, true, false, false},
            {true, false, false, false},
            {false, false, false, true},
            {false, false, true, false},
        };
        for (int p = 0; p < 4; p++) {
            for (int q = 0; q < 4; q++) {
                Checks.due("hears(" + p + ", " + q + ")", x.hears(p, q), want[p][q]);
            }
        }
        // the one on the tower of 6 is heard everywhere, but hears only those beside it
        RoofPigeons y = Checks.taught("roofs 1 2 6 2 1; pigeon a at 0 loud 1; pigeon b at 2 loud 2; pigeon c at 3 loud 3;");
        Checks.due("hears(0, 1)", y.hears(0, 1), true);
        Checks.due("hears(1, 0)", y.hears(1, 0), false);
        Checks.due("hears(1, 2)", y.hears(1, 2), true);
        Checks.due("hears(2, 1)", y.hears(2, 1), true);
        Checks.noIndex("hears(-1, 0)", () -> x.hears(-1, 0));
        Checks.noIndex("hears(0, -1)", () -> x.hears(0, -1));
        Checks.noIndex("hears(4, 0)", () -> x.hears(4, 0));
        Checks.noIndex("hears(0, 4)", () -> x.hears(0, 4));
        Checks.noIndex("hears(4, 4)", () -> x.hears(4, 4));
        RoofPigeons same = Checks.taught("roofs 1; pigeon a at 0 loud 1; pigeon b at 0 loud 2;");
        Checks.due("hears(0, 1) on one tower", same.hears(0, 1), true);
        Checks.due("hears(1, 0) on one tower", same.hears(1, 0), true);
        Checks.due("hears(1, 1)", same.hears(1, 1), false);
    }

    private static void noiseAt() {
        RoofPigeons x = Checks.taught(CITY);
        int[] want = {2, 1, 8, 4};
        for (int k = 0; k < want.length; k++) {
            Checks.due("noiseAt(" + k + ")", x.noiseAt(k), want[k]);
        }
        Checks.noIndex("noiseAt(-1)", () -> x.noiseAt(-1));
        Checks.noIndex("noiseAt(4)", () -> x.noiseAt(4));
        StringBuilder text = new StringBuilder("roofs 3;");
        for (int k = 1; k <= 8; k++) {
            text.append("pigeon p").append(k).append(" at 0 loud ").append(k).append(';');
        }
        RoofPigeons all = Checks.taught(text.toString());
        for (int k = 0; k < 8; k++) {
            Checks.due("noiseAt(" + k + ") of eight", all.noiseAt(k), 36 - (k + 1));
        }
        Checks.noIndex("noiseAt(8) of eight", () -> all.noiseAt(8));
    }

    private static void quietest() {
        Checks.due("quietest()", Checks.taught(CITY).quietest(), 1);
        Checks.due("quietest(): the first",
                Checks.taught("roofs 1; pigeon a at 0 loud 3; pigeon b at 0 loud 2; pigeon c at 0 loud 2;").quietest(), 0);
        Checks.due("quietest() without any", Checks.taught("roofs 1 2;").quietest(), -1);
        Checks.due("quietest() of one", Checks.taught("roofs 1 2; pigeon a at 0 loud 9;").quietest(), 0);
        Checks.due("quietest() of the same",
                Checks.taught("roofs 1; pigeon a at 0 loud 1; pigeon b at 0 loud 2; pigeon c at 0 loud 2;").quietest(), 1);
    }

    private static void hop() {
        RoofPigeons x = Checks.taught("roofs 2 1 1 2 3; pigeon a at 2 loud 1; pigeon b at 1 loud 1;");
        Checks.due("hop(0, left): over an equal one", x.hop(0, false), 0);
        Checks.noState("hop(0, left) from the first", () -> x.hop(0, false));
        Checks.due("hop(0, right): over an equal one", x.hop(0, true), 4);
        Checks.noState("hop(0, right) from the last", () -> x.hop(0, true));
        Checks.noState("hop(0, left) from the highest", () -> x.hop(0, false));
        Checks.due("placeOf(0): nothing is changed", x.placeOf(0), 4);
        Checks.due("placeOf(1)", x.placeOf(1), 1);
        Checks.due("hop(1, right)", x.hop(1, true), 3);
        Checks.noState("hop(1, left): only an equal one", () -> x.hop(1, false));
        Checks.due("ordersCarriedOut()", x.ordersCarriedOut(), 0);
        Checks.noIndex("hop(-1, right)", () -> x.hop(-1, true));
        Checks.noIndex("hop(2, left)", () -> x.hop(2, false));
        Checks.noIndex("hop(0, right) without any", () -> new RoofPigeons().hop(0, true));
    }

    private static void glide() {
        RoofPigeons x = Checks.taught("roofs 0 3 3 2 1; pigeon a at 1 loud 1; pigeon b at 2 loud 1;");
        Checks.noState("glide(0, right) to an equal one", () -> x.glide(0, true));
        Checks.due("glide(0, left)", x.glide(0, false), 0);
        Checks.noState("glide(0, left) from the first", () -> x.glide(0, false));
        Checks.noState("glide(0, right) to a higher one", () -> x.glide(0, true));
        Checks.due("placeOf(0): nothing is changed", x.placeOf(0), 0);
        Checks.noState("glide(1, left) to an equal one", () -> x.glide(1, false));
        Checks.due("glide(1, right)", x.glide(1, true), 3);
        Checks.due("glide(1, right)", x.glide(1, true), 4);
        Checks.noState("glide(1, right) from the last", () -> x.glide(1, true));
        Checks.due("placeOf(1)", x.placeOf(1), 4);
        Checks.due("ordersCarriedOut()", x.ordersCarriedOut(), 0);
        Checks.noIndex("glide(-1, right)", () -> x.glide(-1, true));
        Checks.noIndex("glide(2, left)", () -> x.glide(2, false));
        Checks.noIndex("glide(0, left) without any", () -> new RoofPigeons().glide(0, false));
    }

    private static void quietestTower() {
        RoofPigeons x = Checks.taught(CITY);
        long digest = x.digest();
        // the noise on 0 to 4 without a: 2, 2, 14, 12, 12; without b: 1, 1, 12, 12, 12; and so on
        Checks.due("quietestTower(0)", x.quietestTower(0), 0);
        Checks.due("quietestTower(1)", x.quietestTower(1), 0);
        Checks.due("quietestTower(2)", x.quietestTower(2), 0);
        Checks.due("quietestTower(3)", x.quietestTower(3), 0);
        Checks.due("digest(): nothing is changed", x.digest(), digest);
        RoofPigeons y = Checks.taught("roofs 1 2 6 2 1; pigeon a at 0 loud 1; pigeon b at 1 loud 2; pigeon c at 1 loud 3;");
        Checks.due("quietestTower(0): not its own one", y.quietestTower(0), 3);
        Checks.due("quietestTower(1)", y.quietestTower(1), 3);
        Checks.due("quietestTower(0): of several the smallest number",
                Checks.taught("roofs 1 4 4 1; pigeon a at 3 loud 1; pigeon b at 0 loud 1; pigeon c at 3 loud 2; pigeon d at 0 loud 3;")
                        .quietestTower(0), 2);
        Checks.due("quietestTower() of one", Checks.taught("roofs 1 2; pigeon a at 1 loud 1;").quietestTower(0), 0);
        Checks.noIndex("quietestTower(-1)", () -> x.quietestTower(-1));
        Checks.noIndex("quietestTower(4)", () -> x.quietestTower(4));
    }

    private static void digest() {
        long empty = 1061;
        // towers, pigeons, day, carried out, trapped, wet, pool, highest, left, right, quietest, best
        long[] numbers = {1, 0, 0, 0, 0, 0, 0, 0, 1, 1, -1, 0, /* the tower */ 0, -1, -1, 0, 0, 0};
        for (long number : numbers) {
            empty = empty * 31 + number;
        }
        Checks.due("digest() of a new object", new RoofPigeons().digest(), empty);

        RoofPigeons x = Checks.taught("roofs 3 1 2; pigeon a at 1 loud 4; pigeon b at 2 loud 5; build 2; build 2;");
        Checks.due("passDays(1)", x.passDays(1), 2);
        // 3 1 4: a flew from the wet tower 1 to 0; a is heard everywhere but beyond 4, so is b
        long[] full = {
            3, 2, 1, 2, 2, 1, 1, 2, 2, 1, 1, 0,
            3, -1, 2, 0, 1, 2, 1, 0, 2, 2, 0, 2, 4, -1, -1, 0, 1, 2,
            0, 4, 5, 0, 2, 5, 4, 0,
        };
        long d = 1061;
        for (long number : full) {
            d = d * 31 + number;
        }
        Checks.due("digest()", x.digest(), d);
        Checks.due("digest() again", x.digest(), d);
        String[] texts = {
            CITY, "roofs 20 1 20 1 4;", "roofs 2 9 1 9 3 3; pigeon a at 0 loud 2; pigeon b at 2 loud 3; pigeon c at 4 loud 4; hop a right; build 4;",
            "roofs 1 2 6 2 1; pigeon a at 0 loud 1; pigeon b at 1 loud 2; pigeon c at 1 loud 3; wear 2;",
        };
        for (String text : texts) {
            RoofPigeons y = Checks.taught(text);
            Checks.due("digest() of " + text, y.digest(), digestOf(y));
            y.passDays(2);
            Checks.due("digest() two days on of " + text, y.digest(), digestOf(y));
        }
    }

    private static long digestOf(RoofPigeons x) {
        List<Integer> numbers = new ArrayList<>(List.of(x.towers(), x.pigeons(), x.day(), x.ordersCarriedOut(), x.trapped(),
                x.wetTowers(), x.widestPool(), x.highest(), x.seenFromLeft(), x.seenFromRight(), x.quietest(), x.bestToBuild()));
        for (int t = 0; t < x.towers(); t++) {
            numbers.addAll(List.of(x.heightOf(t), x.nextTallerLeft(t), x.nextTallerRight(t), x.waterOn(t), x.pigeonsOn(t), x.heardOn(t)));
        }
        for (int p = 0; p < x.pigeons(); p++) {
            numbers.addAll(List.of(x.placeOf(p), x.loudnessOf(p), x.noiseAt(p), x.quietestTower(p)));
        }
        long d = 1061;
        for (int number : numbers) {
            d = d * 31 + number;
        }
        return d;
    }
}
