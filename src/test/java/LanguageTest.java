import java.util.LinkedHashSet;
import java.util.Random;
import java.util.Set;

/** Promises 1 to 5: a new object, feed, trim, teach and errorAt. */
public final class LanguageTest {
    public static void main(String[] args) {
        newObject();
        feed();
        trim();
        teachTakesThePlace();
        teachManyTimes();
        teachWithErrorKeepsAll();
        errorAt();
        tokens();
        errorOneInLines();
        errorOneInOrders();
        errorOneInTests();
        errorOneInSums();
        depth();
        numberOfTokens();
        errorTwo();
        errorThree();
        errorFour();
        errorFive();
        severalErrors();
        Checks.end();
    }

    private static void newObject() {
        RoofPigeons x = new RoofPigeons();
        Checks.due("new: towers()", x.towers(), 1);
        Checks.due("new: heightOf(0)", x.heightOf(0), 0);
        Checks.noIndex("new: heightOf(1)", () -> x.heightOf(1));
        Checks.due("new: pigeons()", x.pigeons(), 0);
        Checks.noIndex("new: placeOf(0)", () -> x.placeOf(0));
        Checks.due("new: day()", x.day(), 0);
        Checks.due("new: ordersCarriedOut()", x.ordersCarriedOut(), 0);
        Checks.due("new: errorAt()", x.errorAt(), -1);
        Checks.due("new: trapped()", x.trapped(), 0);
        Checks.due("new: seenFromLeft()", x.seenFromLeft(), 1);
        Checks.due("new: seenFromRight()", x.seenFromRight(), 1);
        Checks.due("new: highest()", x.highest(), 0);
        Checks.due("new: quietest()", x.quietest(), -1);
        Checks.due("new: bestToBuild()", x.bestToBuild(), 0);
        Checks.due("new: passDays(30)", x.passDays(30), 0);
        Checks.due("new: day() behind it", x.day(), 30);
        Checks.noArgument("new: trim(1)", () -> x.trim(1));
    }

    private static void feed() {
        RoofPigeons x = new RoofPigeons();
        // "roof" "s 3;" and "\n   " twice, "   \n": the highest byte comes first
        Checks.due("feed", x.feed(0x726f6f66, 0x7320333b, 0x0a202020, 0x0a202020, 0x2020200a), 20);
        Checks.due("teach() of what was fed", x.teach(), 0);
        Checks.due("heightOf(0)", x.heightOf(0), 3);
        for (int k = 1; k <= 100; k++) {
            Checks.due("feed number " + k, x.feed(0x20202020, 0x20202020, 0x20202020, 0x20202020, 0x20202020), 20 * k);
        }
        Checks.noState("feed behind 2000 bytes", () -> x.feed(0, 0, 0, 0, 0));
        Checks.due("trim(2000): a feed that throws changes nothing", x.trim(2000), 2000);
        Checks.due("trim(1981)", x.trim(1981), 1981);
        Checks.noState("feed behind 1981 bytes", () -> x.feed(0, 0, 0, 0, 0));
        Checks.due("trim(1980)", x.trim(1980), 1980);
        Checks.due("feed behind 1980 bytes", x.feed(0, 0, 0, 0, 0), 2000);
        Checks.due("teach() of blanks and 20 bytes 0", x.teach(), 1);
        Checks.due("errorAt()", x.errorAt(), 1980);
        Checks.due("feed behind teach()", x.feed(-1, -1, -1, -1, -1), 20);
        Checks.due("teach() of bytes 255", x.teach(), 1);
        Checks.due("errorAt()", x.errorAt(), 0);
        // each byte has its place: 20 letters, of which the word "roofs" stands at 15
        x.feed(0x20202020, 0x20202020, 0x20202020, 0x20202072, 0x6f6f6673);
        x.feed(0x20313220, 0x3320303b, 0x20202020, 0x20202020, 0x20202020);
        Checks.due("teach() over two feeds", x.teach(), 0);
        Checks.due("heightOf(0)", x.heightOf(0), 12);
        Checks.due("heightOf(1)", x.heightOf(1), 3);
        Checks.due("heightOf(2)", x.heightOf(2), 0);
    }

    private static void trim() {
        RoofPigeons x = new RoofPigeons();
        Checks.due("trim(0) of nothing", x.trim(0), 0);
        Checks.noArgument("trim(-1) of nothing", () -> x.trim(-1));
        Checks.type(x, "roofs 1 2 3;roofs 4;");
        Checks.noArgument("trim(21) of 20", () -> x.trim(21));
        Checks.noArgument("trim(-1) of 20", () -> x.trim(-1));
        Checks.noArgument("trim(least) of 20", () -> x.trim(Integer.MIN_VALUE));
        Checks.noArgument("trim(most) of 20", () -> x.trim(Integer.MAX_VALUE));
        Checks.due("trim(20) of 20", x.trim(20), 20);
        Checks.due("trim(12) of 20", x.trim(12), 12);
        Checks.noArgument("trim(13) of 12", () -> x.trim(13));
        Checks.due("feed behind trim", x.feed(0x20202020, 0x20202020, 0x20202020, 0x20202020, 0x20202020), 32);
        Checks.due("teach()", x.teach(), 0);
        Checks.due("towers()", x.towers(), 3);
        Checks.noArgument("trim(1) behind teach()", () -> x.trim(1));
        Checks.due("trim(0) behind teach()", x.trim(0), 0);
    }

    private static void teachTakesThePlace() {
        RoofPigeons x = Checks.taught("roofs 5 0 5; pigeon a at 1 loud 2; build 0;");
        x.passDays(4);
        x.wear(2);
        Checks.due("day()", x.day(), 4);
        Checks.due("ordersCarriedOut()", x.ordersCarriedOut(), 4);
        Checks.due("teach() again", Checks.teach(x, "roofs 7 2; pigeon bb at 1 loud 9; pigeon a at 0 loud 1; wear 1;"), 0);
        Checks.due("towers()", x.towers(), 2);
        Checks.due("heightOf(0)", x.heightOf(0), 7);
        Checks.due("heightOf(1)", x.heightOf(1), 2);
        Checks.due("pigeons()", x.pigeons(), 2);
        Checks.due("placeOf(0)", x.placeOf(0), 1);
        Checks.due("loudnessOf(0)", x.loudnessOf(0), 9);
        Checks.due("placeOf(1)", x.placeOf(1), 0);
        Checks.due("day()", x.day(), 0);
        Checks.due("ordersCarriedOut()", x.ordersCarriedOut(), 0);
        Checks.due("trapped()", x.trapped(), 0);
        Checks.due("passDays(3): only the new orders", x.passDays(3), 2);
        Checks.due("heightOf(0)", x.heightOf(0), 7);
        Checks.due("heightOf(1)", x.heightOf(1), 0);
        Checks.due("teach() a third time", Checks.teach(x, "roofs 4;"), 0);
        Checks.due("towers()", x.towers(), 1);
        Checks.due("pigeons()", x.pigeons(), 0);
        Checks.due("passDays(2) without orders", x.passDays(2), 0);
    }

    private static void teachManyTimes() {
        RoofPigeons x = new RoofPigeons();
        for (int k = 0; k < 40; k++) {
            // 3, 2 * 190 + 2, and 8 tokens: the sum is 190 + k, over 2 towers
            String text = "roofs 1 1; build " + k + Checks.times(190, "+1") + "; build 1 when day=0;";
            Checks.due("teach() number " + 3 * k, Checks.teach(x, text), 0);
            Checks.due("passDays(2)", x.passDays(2), 3);
            Checks.due("heightOf(0)", x.heightOf(0), k % 2 == 0 ? 3 : 1);
            Checks.due("heightOf(1)", x.heightOf(1), k % 2 == 0 ? 2 : 4);
            Checks.due("teach() with an error 1", Checks.teach(x, text + "hop"), 1);
            Checks.due("teach() with an error 3", Checks.teach(x, "roofs 2; hop a left; build 0 when day = 0;"), 3);
            Checks.due("passDays(1)", x.passDays(1), 1);
        }
    }

    private static void teachWithErrorKeepsAll() {
        String[] wrong = {
            "", "roofs 1 2; build 0; build 0; build", "roofs 9; pigeon a at 0 loud 1; pigeon a at 0 loud 1;",
            "roofs 9 9 9 9; glide b left;", "roofs 1 1 1 1 1 1 1 1 1 1 1 1 1 1 1 1 1; wear 0;", "roofs 21; wear 0;",
        };
        int[] errors = {1, 1, 2, 3, 4, 5};
        for (int k = 0; k < wrong.length; k++) {
            RoofPigeons x = Checks.taught("roofs 5 1 5; pigeon a at 1 loud 2; pigeon b at 2 loud 3; build day when day < 2;");
            x.passDays(1);
            long digest = x.digest();
            Checks.due("teach() of \"" + wrong[k] + "\"", Checks.teach(x, wrong[k]), errors[k]);
            Checks.due("digest() behind an error", x.digest(), digest);
            Checks.due("the tape is empty behind an error", x.feed(0, 0, 0, 0, 0), 20);
            Checks.due("day()", x.day(), 1);
            Checks.due("ordersCarriedOut()", x.ordersCarriedOut(), 1);
            Checks.due("passDays(5): the orders stay", x.passDays(5), 1);
            Checks.due("heightOf(0)", x.heightOf(0), 6);
            Checks.due("heightOf(1)", x.heightOf(1), 2);
            Checks.due("trapped()", x.trapped(), 3);
        }
    }

    private static void errorAt() {
        RoofPigeons x = new RoofPigeons();
        Checks.due("errorAt() without teach()", x.errorAt(), -1);
        Checks.teach(x, "roofs 1 x");
        Checks.due("errorAt() of an error 1", x.errorAt(), 8);
        x.feed(0, 0, 0, 0, 0);
        x.trim(0);
        Checks.due("errorAt() stays until teach()", x.errorAt(), 8);
        Checks.teach(x, "roofs 1 ;");
        Checks.due("errorAt() behind none", x.errorAt(), -1);
        Checks.teach(x, "roofs 3 30;");
        Checks.due("errorAt() of an error 5", x.errorAt(), 8);
    }

    private static void tokens() {
        RoofPigeons x = Checks.taught("\n \nroofs\n3 4\n\n;\n");
        Checks.due("blanks and line ends: towers()", x.towers(), 2);
        x = Checks.taught("roofs 3 4;pigeon a9 at 1loud 2;pigeon a at 0loud 3;hop a right when[1<=2]and 3>=3and place of a=0;");
        Checks.due("few blanks: passDays(1)", x.passDays(1), 1);
        Checks.due("placeOf(1)", x.placeOf(1), 1);
        x = Checks.taught("roofs 000020 00;");
        Checks.due("zeros ahead: heightOf(0)", x.heightOf(0), 20);
        Checks.due("zeros ahead: heightOf(1)", x.heightOf(1), 0);
        x = Checks.taught("roofs 1 2; pigeon abcdefghij at 0 loud 1; pigeon abcdefghi at 1 loud 2; pigeon abcdefghi0 at 1 loud 3;"
                + " pigeon z at 0 loud 4; pigeon za at 0 loud 5; pigeon a0 at 0 loud 6; pigeon a00 at 0 loud 7; hop abcdefghij right;");
        Checks.due("long names: pigeons()", x.pigeons(), 7);
        x.passDays(1);
        Checks.due("placeOf(0)", x.placeOf(0), 1);
        x = Checks.taught("roofs 1 2; pigeon roof at 0 loud 1; pigeon days at 0 loud 2; pigeon x0 at 0 loud 3; pigeon roofs1 at 0 loud 4;");
        Checks.due("names that hold keywords: pigeons()", x.pigeons(), 4);
        namesAreToldApart();
        Checks.dueError("roofs3;", 1, 0);
        Checks.dueError("roofs 1 2; pigeon abcdefghijk at 0 loud 1;", 1, 18);
        Checks.dueError("roofs 1 2; pigeon abcdefghij0 at 0 loud 1;", 1, 18);
        Checks.dueError("roofs 1 0000012;", 1, 8);
        Checks.dueError("roofs 1 1234567;", 1, 8);
        Checks.dueError("roofs 1 123456;", 5, 8);
        Checks.dueError("roofs 1\t2;", 1, 7);
        Checks.dueError("roofs 1\r2;", 1, 7);
        Checks.dueError("roofs 1\u00002;", 1, 7);
        Checks.dueError("roofs 1\u00ff2;", 1, 7);
        Checks.dueError("roofs 1\u00a02;", 1, 7);
        Checks.dueError("Roofs 1;", 1, 0);
        Checks.dueError("roofs 1; pigeon a_b at 0 loud 1;", 1, 17);
        Checks.dueError("roofs 1; pigeon aB at 0 loud 1;", 1, 17);
        Checks.dueError("roofs 1 2; build 1 when 1 < = 2;", 1, 28);
        Checks.dueError("roofs 1 2; build 1 when 1 =< 2;", 1, 27);
        Checks.dueError("roofs 1 2; build 1 when 1 <> 2;", 1, 27);
        Checks.dueError("roofs 1 2; build 1 when 1 == 2;", 1, 27);
        Checks.dueError("roofs 1 2; build 1 when 1 >=> 2;", 1, 28);
        for (int b = 0; b < 256; b++) {
            String text = "roofs 1; build 0" + (char) b + "; wear 0;";
            boolean isTokenOrBlank = b == ' ' || b == '\n' || b == ';' || b >= '0' && b <= '9';
            if (!isTokenOrBlank) {
                boolean isSign = b == '+' || b == '-' || b == '*' || b == '/';
                Checks.dueError(text, 1, isSign ? 17 : 16);
            }
        }
    }

    /** Eight names at once, many times, each of one letter or of two and three signs. */
    private static void namesAreToldApart() {
        String signs = "abcdefghijklmnopqrstuvwxyz0123456789";
        Random random = new Random(7);
        RoofPigeons x = new RoofPigeons();
        for (int times = 0; times < 4000; times++) {
            Set<String> names = new LinkedHashSet<>();
            while (names.size() < 8) {
                StringBuilder name = new StringBuilder().append(signs.charAt(random.nextInt(26)));
                for (int more = random.nextInt(3); more > 0; more--) {
                    name.append(signs.charAt(random.nextInt(36)));
                }
                if (!Set.of("at", "of", "or", "and", "not", "min", "max", "hop", "day", "dry").contains(name.toString())) {
                    names.add(name.toString());
                }
            }
            StringBuilder text = new StringBuilder("roofs 1;");
            for (String name : names) {
                text.append("pigeon ").append(name).append(" at 0 loud 1;");
            }
            Checks.due("teach() of " + text, Checks.teach(x, text.toString()), 0);
        }
    }

    private static void errorOneInLines() {
        Checks.dueError("", 1, 0);
        Checks.dueError("  \n ", 1, 4);
        Checks.dueError("roofs", 1, 5);
        Checks.dueError("roofs  ", 1, 7);
        Checks.dueError("roofs ;", 1, 6);
        Checks.dueError("roofs 1", 1, 7);
        Checks.dueError("roofs 1 2  ", 1, 11);
        Checks.dueError("roofs -1;", 1, 6);
        Checks.dueError("roofs 1 (2);", 1, 8);
        Checks.dueError("roof 1;", 1, 0);
        Checks.dueError("; roofs 1;", 1, 0);
        Checks.dueError("roofs 1; ;", 1, 9);
        Checks.dueError("roofs 1; roofs 2;", 1, 9);
        Checks.dueError("roofs 1; a;", 1, 9);
        Checks.dueError("roofs 1; when 1 = 1;", 1, 9);
        Checks.dueError("roofs 1; pigeon", 1, 15);
        Checks.dueError("roofs 1; pigeon;", 1, 15);
        Checks.dueError("roofs 1; pigeon a;", 1, 17);
        Checks.dueError("roofs 1; pigeon a at;", 1, 20);
        Checks.dueError("roofs 1; pigeon day at 0 loud 1;", 1, 16);
        Checks.dueError("roofs 1; pigeon 5 at 0 loud 1;", 1, 16);
        Checks.dueError("roofs 1; pigeon a loud 1 at 0;", 1, 18);
        Checks.dueError("roofs 1; pigeon a at b loud 1;", 1, 21);
        Checks.dueError("roofs 1; pigeon a at -0 loud 1;", 1, 21);
        Checks.dueError("roofs 1; pigeon a at 0 1;", 1, 23);
        Checks.dueError("roofs 1; pigeon a at 0 loud;", 1, 27);
        Checks.dueError("roofs 1; pigeon a at 0 loud 1", 1, 29);
        Checks.dueError("roofs 1; pigeon a at 0 loud 1 when 1 = 1;", 1, 30);
        Checks.dueError("roofs 1; build 0", 1, 16);
        Checks.dueError("roofs 1; build 0 wear 0;", 1, 17);
    }

    private static void errorOneInOrders() {
        String head = "roofs 1 2; pigeon a at 0 loud 1; ";
        int at = head.length();
        Checks.dueError(head + "hop;", 1, at + 3);
        Checks.dueError(head + "hop 1 left;", 1, at + 4);
        Checks.dueError(head + "hop a;", 1, at + 5);
        Checks.dueError(head + "hop a day;", 1, at + 6);
        Checks.dueError(head + "hop left a;", 1, at + 4);
        Checks.dueError(head + "glide a left right;", 1, at + 13);
        Checks.dueError(head + "glide [a] left;", 1, at + 6);
        Checks.dueError(head + "glide a when 1 = 1;", 1, at + 8);
        Checks.dueError(head + "glide a left when;", 1, at + 17);
        Checks.dueError(head + "glide a left when when 1 = 1;", 1, at + 18);
        Checks.dueError(head + "glide a left when 1 = 1 when 2 = 2;", 1, at + 24);
        Checks.dueError(head + "build;", 1, at + 5);
        Checks.dueError(head + "build when 1 = 1;", 1, at + 6);
        Checks.dueError(head + "build a;", 1, at + 6);
        Checks.dueError(head + "build left;", 1, at + 6);
        Checks.dueError(head + "wear 1 2;", 1, at + 7);
        Checks.dueError(head + "wear 1 < 2;", 1, at + 7);
        Checks.dueError(head + "wear 1 when 2;", 1, at + 13);
    }

    private static void errorOneInTests() {
        String head = "roofs 1 2; pigeon a at 0 loud 1; build 0 when ";
        int at = head.length();
        Checks.dueError(head + "1 <;", 1, at + 3);
        Checks.dueError(head + "1 < 2 < 3;", 1, at + 6);
        Checks.dueError(head + "1 < 2 and;", 1, at + 9);
        Checks.dueError(head + "1 < 2 or;", 1, at + 8);
        Checks.dueError(head + "or 1 < 2;", 1, at);
        Checks.dueError(head + "1 < 2 and or 1 < 2;", 1, at + 10);
        Checks.dueError(head + "not;", 1, at + 3);
        Checks.dueError(head + "not 1;", 1, at + 5);
        Checks.dueError(head + "[1 < 2;", 1, at + 6);
        Checks.dueError(head + "[1 < 2);", 1, at + 6);
        Checks.dueError(head + "[];", 1, at + 1);
        Checks.dueError(head + "[1 < 2]];", 1, at + 7);
        Checks.dueError(head + "[1] < 2;", 1, at + 2);
        Checks.dueError(head + "(1 < 2);", 1, at + 3);
        Checks.dueError(head + "[1 < 2] < 3;", 1, at + 8);
        Checks.dueError(head + "hears a;", 1, at + 7);
        Checks.dueError(head + "hears;", 1, at + 5);
        Checks.dueError(head + "hears a a a;", 1, at + 10);
        Checks.dueError(head + "over a 1;", 1, at + 7);
        Checks.dueError(head + "hears a, a;", 1, at + 7);
        Checks.dueError(head + "dry;", 1, at + 3);
        Checks.dueError(head + "dry 1 = 1;", 1, at + 6);
        Checks.dueError(head + "dry [1 = 1];", 1, at + 4);
        Checks.dueError(head + "a < 1;", 1, at);
        Checks.dueError(head + "1 < a;", 1, at + 4);
        Checks.dueError(head + "1 ! 2;", 1, at + 2);
    }

    private static void errorOneInSums() {
        String head = "roofs 1 2; pigeon a at 0 loud 1; build ";
        int at = head.length();
        Checks.dueError(head + "1 +;", 1, at + 3);
        Checks.dueError(head + "+ 1;", 1, at);
        Checks.dueError(head + "1 + + 1;", 1, at + 4);
        Checks.dueError(head + "1 * / 1;", 1, at + 4);
        Checks.dueError(head + "* 1;", 1, at);
        Checks.dueError(head + "();", 1, at + 1);
        Checks.dueError(head + "(1;", 1, at + 2);
        Checks.dueError(head + "(1];", 1, at + 2);
        Checks.dueError(head + "1);", 1, at + 1);
        Checks.dueError(head + "[1];", 1, at);
        Checks.dueError(head + "(1, 2);", 1, at + 2);
        Checks.dueError(head + "1, 2;", 1, at + 1);
        Checks.dueError(head + "min 1, 2;", 1, at + 4);
        Checks.dueError(head + "min;", 1, at + 3);
        Checks.dueError(head + "min(;", 1, at + 4);
        Checks.dueError(head + "min(1;", 1, at + 5);
        Checks.dueError(head + "min(1,;", 1, at + 6);
        Checks.dueError(head + "min(1,2;", 1, at + 7);
        Checks.dueError(head + "height;", 1, at + 6);
        Checks.dueError(head + "min(1);", 1, at + 5);
        Checks.dueError(head + "min(1, 2, 3);", 1, at + 8);
        Checks.dueError(head + "max(, 2);", 1, at + 4);
        Checks.dueError(head + "max(1, );", 1, at + 7);
        Checks.dueError(head + "max(1 2);", 1, at + 6);
        Checks.dueError(head + "height 1;", 1, at + 7);
        Checks.dueError(head + "height(1, 2);", 1, at + 8);
        Checks.dueError(head + "height();", 1, at + 7);
        Checks.dueError(head + "noise a;", 1, at + 6);
        Checks.dueError(head + "noise of 1;", 1, at + 9);
        Checks.dueError(head + "place of;", 1, at + 8);
        Checks.dueError(head + "place(a);", 1, at + 5);
        Checks.dueError(head + "not 1;", 1, at);
        Checks.dueError(head + "1 < 2;", 1, at + 2);
        Checks.dueError(head + "day day;", 1, at + 4);
        Checks.dueError(head + "seen(1);", 1, at + 4);
        Checks.dueError(head + "of a;", 1, at);
    }

    private static void depth() {
        String head = "roofs 1 2; build ";
        int at = head.length();
        Checks.due("8 brackets", Checks.teach(new RoofPigeons(), head + "((((((((1))))))));"), 0);
        Checks.dueError(head + "(((((((((1)))))))));", 1, at + 8);
        Checks.due("8 minus", Checks.teach(new RoofPigeons(), head + "--------1;"), 0);
        Checks.dueError(head + "---------1;", 1, at + 8);
        Checks.due("8 heights", Checks.teach(new RoofPigeons(), head + Checks.times(8, "height(") + "1" + Checks.times(8, ")") + ";"), 0);
        Checks.dueError(head + Checks.times(9, "height(") + "1" + Checks.times(9, ")") + ";", 1, at + 62);
        Checks.due("8 min", Checks.teach(new RoofPigeons(), head + Checks.times(8, "min(2,") + "1" + Checks.times(8, ")") + ";"), 0);
        Checks.dueError(head + Checks.times(8, "min(2,") + "max(1,3)" + Checks.times(8, ")") + ";", 1, at + 51);
        Checks.due("behind a ) the depth is less", Checks.teach(new RoofPigeons(), head + "((((((((1))))))))+((((((((1))))))))*--------day;"), 0);
        Checks.due("behind what a - turns the depth is less", Checks.teach(new RoofPigeons(), head + "-------(1)-------(1)+(1);"), 0);
        Checks.dueError(head + "-------(-1);", 1, at + 8);
        Checks.dueError(head + "(((-((((-1))))))));", 1, at + 8);
        Checks.due("a - between is no depth", Checks.teach(new RoofPigeons(), head + "((((((((1-2-3))))))))-4;"), 0);
        Checks.dueError(head + "((((((((1--2))))))));", 1, at + 10);

        String test = head + "0 when ";
        int from = test.length();
        Checks.due("8 not", Checks.teach(new RoofPigeons(), test + Checks.times(8, "not ") + "1 = 1;"), 0);
        Checks.dueError(test + Checks.times(9, "not ") + "1 = 1;", 1, from + 32);
        Checks.due("8 [", Checks.teach(new RoofPigeons(), test + "[[[[[[[[1 = 1]]]]]]]] and [[[[[[[[1 = 1]]]]]]]];"), 0);
        Checks.dueError(test + "[[[[[[[[[1 = 1]]]]]]]]];", 1, from + 8);
        Checks.due("not up to depth 8", Checks.teach(new RoofPigeons(), test + "not [not [not [not [1 = 1]]]];"), 0);
        Checks.dueError(test + "not [not [not [not [(1) = 1]]]];", 1, from + 20);
        Checks.dueError(test + "not [not [not [not [-1 = 1]]]];", 1, from + 20);
        Checks.dueError(test + "not [not [not [not [not 1 = 1]]]];", 1, from + 20);
        Checks.dueError(test + "not [not [not [not [dry height(1)]]]];", 1, from + 30);
        Checks.due("not turns a single alone", Checks.teach(new RoofPigeons(), test + Checks.times(8, "not ") + "1 = 1 and (((1))) = 1;"), 0);
        Checks.dueError(test + Checks.times(8, "not ") + "(1) = 1;", 1, from + 32);
        Checks.dueError(test + Checks.times(8, "not ") + "1 = (1);", 1, from + 36);
    }

    private static void numberOfTokens() {
        // 3 tokens, 2 tokens, 2 for each "+1", and the ";"
        String sum = "roofs 1; build 0";
        String full = sum + Checks.times(197, "+1") + ";";
        RoofPigeons x = new RoofPigeons();
        Checks.due("400 tokens", Checks.teach(x, full), 0);
        Checks.due("passDays(1)", x.passDays(1), 1);
        Checks.due("400 tokens and blanks", Checks.teach(x, full + "  \n"), 0);
        Checks.dueError(full + " wear 0;", 1, full.length() + 1);
        Checks.dueError(full + " wear", 1, full.length() + 1);
        Checks.dueError(full + "!", 1, full.length());
        Checks.dueError(full + "roofs", 1, full.length());
        String fuller = sum + Checks.times(196, "+1") + ";wear 0";
        Checks.dueError(fuller + ";", 1, fuller.length());
        // the 400th token does not end the skyline: the end of the tape is not counted, a ; is
        String half = "roofs 1 1; build 0" + Checks.times(197, "+1");
        Checks.dueError(half, 1, half.length());
        Checks.dueError(half + "  ", 1, half.length() + 2);
        Checks.dueError(half + ";", 1, half.length());
        // an error ahead of the 401st token is not told beside it
        String wrong = "roofs 30; build 0" + Checks.times(197, "+1") + ";";
        Checks.dueError(wrong, 5, 6);
        Checks.dueError(wrong + ";", 1, wrong.length());
    }

    private static void errorTwo() {
        Checks.dueError("roofs 1; pigeon a at 0 loud 1; pigeon a at 0 loud 1;", 2, 38);
        Checks.dueError("roofs 1; pigeon a at 0 loud 1; pigeon b at 0 loud 1; build 0; pigeon a at 0 loud 1;", 2, 69);
        Checks.dueError("roofs 1; pigeon b at 0 loud 1; pigeon a at 0 loud 1; pigeon b at 0 loud 1; pigeon a at 0 loud 1;", 2, 60);
        Checks.due("names that are alike", Checks.teach(new RoofPigeons(),
                "roofs 1; pigeon a at 0 loud 1; pigeon a1 at 0 loud 1; pigeon aa at 0 loud 1; pigeon b at 0 loud 1;"), 0);
        // the place and loudness of the second one would be wrong as well, but stand behind its name
        Checks.dueError("roofs 1; pigeon a at 0 loud 1; pigeon a at 7 loud 0;", 2, 38);
    }

    private static void errorThree() {
        String head = "roofs 1 2; pigeon a at 0 loud 1; ";
        int at = head.length();
        Checks.dueError(head + "hop b left;", 3, at + 4);
        Checks.dueError(head + "glide aa right;", 3, at + 6);
        Checks.dueError(head + "glide a0 right;", 3, at + 6);
        Checks.dueError(head + "build 0 when hears b a;", 3, at + 19);
        Checks.dueError(head + "build 0 when hears a b;", 3, at + 21);
        Checks.dueError(head + "build 0 when over b c;", 3, at + 18);
        Checks.dueError(head + "build 0 when over a c;", 3, at + 20);
        Checks.dueError(head + "build noise of b;", 3, at + 15);
        Checks.dueError(head + "build place of b;", 3, at + 15);
        Checks.dueError(head + "hop b left; pigeon b at 0 loud 1;", 3, at + 4);
        Checks.due("a name that is told ahead", Checks.teach(new RoofPigeons(), head + "pigeon b at 0 loud 1; hop b left; hop a left;"), 0);
    }

    private static void errorFour() {
        Checks.due("16 towers", Checks.teach(new RoofPigeons(), "roofs" + Checks.times(16, " 3") + ";"), 0);
        Checks.dueError("roofs" + Checks.times(17, " 3") + ";", 4, 38);
        Checks.dueError("roofs" + Checks.times(19, " 3") + ";", 4, 38);
        StringBuilder text = new StringBuilder("roofs 1 2;");
        for (int k = 0; k < 8; k++) {
            text.append("pigeon p").append(k).append(" at 1 loud 1;");
        }
        RoofPigeons x = Checks.taught(text.toString());
        Checks.due("8 pigeons", x.pigeons(), 8);
        Checks.dueError(text + "pigeon p8 at 1 loud 1;", 4, text.length() + 7);
        Checks.due("8 pigeons with an order each", Checks.teach(x, text + "hop p0 left; hop p7 left; build noise of p7 when hears p0 p7;"), 0);
        Checks.dueError(text + "hop p8 left;", 3, text.length() + 4);
        Checks.dueError(text + "pigeon p8 at 9 loud 0;", 4, text.length() + 7);
        String orders = "roofs 1 2; pigeon a at 0 loud 1;" + Checks.times(4, "hop a left;glide a left;build 0;wear 0;");
        Checks.due("16 orders", Checks.teach(new RoofPigeons(), orders), 0);
        Checks.dueError(orders + " wear 0;", 4, orders.length() + 1);
        Checks.dueError(orders + " build 0;", 4, orders.length() + 1);
        Checks.dueError(orders + " hop b left;", 4, orders.length() + 1);
        Checks.dueError(orders + " glide a right; glide a right;", 4, orders.length() + 1);
        Checks.due("pigeons behind 16 orders", Checks.teach(new RoofPigeons(), orders + "pigeon b at 1 loud 1;"), 0);
    }

    private static void errorFive() {
        Checks.due("height 20", Checks.teach(new RoofPigeons(), "roofs 20 0;"), 0);
        Checks.dueError("roofs 20 21;", 5, 9);
        Checks.dueError("roofs 999999;", 5, 6);
        Checks.dueError("roofs 1 2; pigeon a at 2 loud 1;", 5, 23);
        Checks.dueError("roofs 1 2; pigeon a at 999999 loud 1;", 5, 23);
        Checks.due("at 1 of 2", Checks.teach(new RoofPigeons(), "roofs 1 2; pigeon a at 1 loud 1;"), 0);
        Checks.dueError("roofs 1 2; pigeon a at 1 loud 0;", 5, 30);
        Checks.dueError("roofs 1 2; pigeon a at 1 loud 10;", 5, 30);
        Checks.due("loud 9", Checks.teach(new RoofPigeons(), "roofs 1 2; pigeon a at 1 loud 9;"), 0);
        Checks.due("other numbers are free", Checks.teach(new RoofPigeons(), "roofs 1 2; build 999999 when height(21) > 999999;"), 0);
        Checks.dueError("roofs" + Checks.times(16, " 3") + "; pigeon a at 16 loud 1;", 5, 51);
        Checks.due("at 15 of 16", Checks.teach(new RoofPigeons(), "roofs" + Checks.times(16, " 3") + "; pigeon a at 15 loud 1;"), 0);
    }

    private static void severalErrors() {
        // error 1 is told although another one stands ahead of it
        Checks.dueError("roofs 21; pigeon a at 3 loud 0; hop b;", 1, 37);
        Checks.dueError("roofs 21; !", 1, 10);
        Checks.dueError("roofs 21; hop b left; build 1 1;", 1, 30);
        // without it the first one, of whatever number
        Checks.dueError("roofs 21; pigeon a at 3 loud 0; hop b left;", 5, 6);
        Checks.dueError("roofs 1; hop b left; pigeon a at 3 loud 0;", 3, 13);
        Checks.dueError("roofs 1; pigeon a at 3 loud 0; pigeon a at 0 loud 1;", 5, 21);
        Checks.dueError("roofs 1; pigeon a at 0 loud 0; pigeon a at 0 loud 1;", 5, 28);
        Checks.dueError("roofs 1; pigeon a at 0 loud 1; build noise of b when hears c d; pigeon a at 0 loud 1;", 3, 46);
        // at one token the smallest number
        Checks.dueError("roofs" + Checks.times(16, " 3") + " 21;", 4, 38);
        Checks.dueError("roofs 21" + Checks.times(15, " 3") + " 21;", 5, 6);
        StringBuilder text = new StringBuilder("roofs 1 2;");
        for (int k = 0; k < 8; k++) {
            text.append("pigeon p").append(k).append(" at 1 loud 1;");
        }
        Checks.dueError(text + "pigeon p3 at 1 loud 1;", 2, text.length() + 7);
        // an order with an error counts as an order
        String orders = "roofs 1 2;" + Checks.times(15, "build 0;");
        Checks.dueError(orders + "hop b left; wear 0;", 3, orders.length() + 4);
    }
}
