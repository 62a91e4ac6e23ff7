import java.util.Set;

/** The boundary cases of "What it is", "Terms" and "1. The language", a test for each sentence. */
final class LanguageBoundaries {
    private static final String ONE_PIGEON = "roofs 1;pigeon a at 0 loud 1;";
    private static final String BUILD = "roofs 1;build ";
    private static final String WHEN = "roofs 1;pigeon a at 0 loud 1;build 0 when ";
    private static final String LETTERS = "abcdefghijklmnopqrstuvwxyz";
    private static final String DIGITS = "0123456789";
    private static final String[] SYMBOLS = {
        "(", ")", "[", "]", ";", ",", "+", "-", "*", "/", "<", ">", "=", "<=", ">=",
    };
    private static final String[] KEYWORDS = {
        "roofs", "pigeon", "at", "loud", "hop", "glide", "build", "wear", "left", "right", "when", "day", "rain", "seen",
        "towers", "height", "noise", "place", "of", "hears", "dry", "over", "not", "and", "or", "min", "max",
    };

    private LanguageBoundaries() {
    }

    static void run() {
        whatItIs();
        terms();
        tape();
        tokens();
        grammar();
        depth();
        errorOne();
        otherErrors();
        firstState();
    }

    private static void whatItIs() {
        String part = "What it is";
        Sentences.free(part, "Pigeons over a skyline.");
        Sentences.test(part, "An object is used for at most 512 calls after it has been made; what later calls answer is free.",
                LanguageBoundaries::call512);
    }

    private static void terms() {
        String part = "Terms";
        Sentences.free(part, "Towers stand in a row, rain is trapped between them; pigeons sit on roofs, coo, and are heard as far as no"
                + " taller tower is in between; a plan lets them hop and glide, and towers be built and worn, from day to day; and one"
                + " can ask which roofs are seen from either side, which tower is the next taller one, how much rain is trapped and"
                + " where, who hears whom and how loud it is, what one tower more or less high would trap, and which one had best be"
                + " built.");
        Sentences.free(part, "All numbers are whole;");
        Sentences.test(part, "sums,", LanguageBoundaries::sumsWrap);
        Sentences.test(part, "differences", LanguageBoundaries::differencesWrap);
        Sentences.test(part, "and products of the language wrap around in 32 bits;", LanguageBoundaries::productsWrap);
        Sentences.test(part, "/ is cut towards 0,", LanguageBoundaries::quotientsAreCut);
        Sentences.test(part, "gives 0 with 0 on the right side,", LanguageBoundaries::quotientsByZero);
        Sentences.test(part, "and -2147483648 / -1 gives -2147483648.", LanguageBoundaries::leastByMinusOne);
        Sentences.test(part, "Positions of the tape are counted from 0, in bytes.", LanguageBoundaries::positions);
    }

    private static void tape() {
        String part = "1. The language";
        Sentences.test(part, "The tape is a row of at most 2000 bytes,", LanguageBoundaries::tapeOf2000);
        Sentences.test(part, "at first empty, which feed and trim fill;", LanguageBoundaries::tapeAtFirst);
        Sentences.test(part, "teach reads it as a skyline, and it is empty behind it.", LanguageBoundaries::tapeBehindTeach);
    }

    private static void tokens() {
        String part = "1. The language";
        Sentences.free(part, "It is a row of tokens.");
        Sentences.test(part, "Blanks (32) and line ends (10) can stand between tokens, at the beginning and at the end,",
                LanguageBoundaries::blanks);
        Sentences.test(part, "and have to stand between two tokens that would otherwise be read as one.",
                LanguageBoundaries::blanksThatAreNeeded);
        Sentences.test(part, "The longest possible token is always read.", LanguageBoundaries::longestToken);
        Sentences.test(part, "A word: a letter a to z, followed by letters a to z and digits, at most 10 bytes.",
                LanguageBoundaries::wordsOf10);
        Sentences.test(part, "A number: 1 to 6 digits.", LanguageBoundaries::numbersOf6);
        Sentences.test(part, "Symbols: ( ) [ ] ; , + - * / < > = <= >=", LanguageBoundaries::symbols);
        Sentences.test(part, "The keywords are: roofs pigeon at loud hop glide build wear left right when day rain seen towers height"
                + " noise place of hears dry over not and or min max.", LanguageBoundaries::keywords);
        Sentences.test(part, "All other words are names.", LanguageBoundaries::otherWords);
    }

    private static void grammar() {
        String part = "1. The language";
        Sentences.test(part, "Grammar. [ x ] outside of quotation marks means x or nothing,", LanguageBoundaries::xOrNothing);
        Sentences.test(part, "{ x } x any number of times, also none,", LanguageBoundaries::xAnyTimes);
        Sentences.test(part, "and | separates alternatives; keywords and symbols of the language are in quotation marks.",
                LanguageBoundaries::alternatives);
        Sentences.test(part, "skyline = \"roofs\" number { number } \";\" { line \";\" }", LanguageBoundaries::skyline);
        Sentences.test(part, "line = \"pigeon\" name \"at\" number \"loud\" number | order [ \"when\" test ]", LanguageBoundaries::line);
        Sentences.test(part, "order = ( \"hop\" | \"glide\" ) name ( \"left\" | \"right\" ) | ( \"build\" | \"wear\" ) sum",
                LanguageBoundaries::order);
        Sentences.test(part, "test = both { \"or\" both }", LanguageBoundaries::test);
        Sentences.test(part, "both = single { \"and\" single }", LanguageBoundaries::both);
        Sentences.test(part, "single = \"not\" single | \"[\" test \"]\" | ( \"hears\" | \"over\" ) name name | \"dry\" sum"
                + " | sum ( \"<\" | \">\" | \"=\" | \"<=\" | \">=\" ) sum", LanguageBoundaries::single);
        Sentences.test(part, "sum = product { ( \"+\" | \"-\" ) product }", LanguageBoundaries::sum);
        Sentences.test(part, "product = value { ( \"*\" | \"/\" ) value }", LanguageBoundaries::product);
        Sentences.test(part, "value = number | \"day\" | \"rain\" | \"seen\" | \"towers\" | ( \"noise\" | \"place\" ) \"of\" name"
                + " | \"height\" \"(\" sum \")\" | \"-\" value | \"(\" sum \")\" | ( \"min\" | \"max\" ) \"(\" sum \",\" sum \")\"",
                LanguageBoundaries::value);
    }

    private static void depth() {
        String part = "1. The language";
        Sentences.test(part, "Depth. It is 0 at the beginning,", LanguageBoundaries::depthAtTheBeginning);
        Sentences.test(part, "and 1 greater between a ( and its ),", LanguageBoundaries::depthOfRound);
        Sentences.test(part, "a [ and its ],", LanguageBoundaries::depthOfSquare);
        Sentences.test(part, "behind a - in front (of a value) for what it turns,", LanguageBoundaries::depthOfMinus);
        Sentences.test(part, "and behind a not for what it turns.", LanguageBoundaries::depthOfNot);
        Sentences.test(part, "It may be at most 8.", LanguageBoundaries::depthOf8);
    }

    private static void errorOne() {
        String part = "1. The language";
        Sentences.test(part, "Errors. Error 1: the first token with which the tokens so far are not the beginning of a skyline.",
                LanguageBoundaries::firstWrongToken);
        Sentences.test(part, "This includes a byte with which no token begins,", LanguageBoundaries::noToken);
        Sentences.test(part, "a word or number that is too long,", LanguageBoundaries::tooLong);
        Sentences.test(part, "the end of the tape (at its length),", LanguageBoundaries::endOfTheTape);
        Sentences.test(part, "the (, [, - or not behind which the depth would be 9,", LanguageBoundaries::depthOf9);
        Sentences.test(part, "and the token that would be the 401st (the end of the tape not counted).", LanguageBoundaries::token401);
        Sentences.test(part, "The position is that of its first byte.", LanguageBoundaries::firstByte);
        Sentences.test(part, "Only if there is no error 1,", LanguageBoundaries::errorOneAheadOfAll);
        Sentences.test(part, "keywords, names and numbers are looked at from left to right, and the first error is told, at its token;",
                LanguageBoundaries::fromLeftToRight);
        Sentences.test(part, "of errors at one token the one with the smallest number.", LanguageBoundaries::smallestNumber);
    }

    private static void otherErrors() {
        String part = "1. The language";
        Sentences.test(part, "Error 2: the name behind pigeon is that of a pigeon told ahead.", LanguageBoundaries::nameToldAhead);
        Sentences.test(part, "Error 3: another name is not that of a pigeon told ahead.", LanguageBoundaries::nameNotTold);
        Sentences.test(part, "Error 4: the 17th number behind roofs,", LanguageBoundaries::roof17);
        Sentences.test(part, "the name of the 9th pigeon,", LanguageBoundaries::pigeon9);
        Sentences.test(part, "or the first word of the 17th order.", LanguageBoundaries::order17);
        Sentences.test(part, "Error 5: a number behind roofs is greater than 20,", LanguageBoundaries::height21);
        Sentences.test(part, "the one behind at is not that of a tower,", LanguageBoundaries::noTower);
        Sentences.test(part, "or the one behind loud is not 1 to 9.", LanguageBoundaries::loud10);
    }

    private static void firstState() {
        String part = "1. The language";
        Sentences.test(part, "Towers are numbered from 0, from left to right,", LanguageBoundaries::towersFrom0);
        Sentences.test(part, "pigeons and orders in the order in which they are told.", LanguageBoundaries::pigeonsAndOrdersFrom0);
        Sentences.test(part, "Towers have the heights that are told.", LanguageBoundaries::heightsThatAreTold);
        Sentences.test(part, "An empty skyline, as at first, has one tower of a height of 0.", LanguageBoundaries::emptySkyline);
    }

    // ---- what it is, and terms

    private static void call512() {
        RoofPigeons x = new RoofPigeons();
        for (int call = 1; call <= 510; call++) {
            if (call % 2 == 1) {
                Checks.due("call " + call + ", build(0)", x.build(0), 0);
            } else {
                Checks.due("call " + call + ", wear(0)", x.wear(0), 0);
            }
        }
        Checks.due("call 511, passDays(30)", x.passDays(30), 0);
        Checks.due("call 512, day()", x.day(), 30);
        // a long tape and the longest plan, over and over: 21 times feed, trim, teach, and two calls more
        RoofPigeons y = new RoofPigeons();
        String text = "roofs 0 0;build day" + Checks.times(196, "+0") + ";";
        for (int times = 1; times <= 20; times++) {
            Checks.due("teach() number " + times, Checks.teach(y, text), 0);
            Checks.due("passDays(3)", y.passDays(3), 3);
            Checks.due("heightOf(0)", y.heightOf(0), 2);
        }
    }

    /** Whether a test holds over one tower of a height of 0. */
    private static void dueHolds(String test, boolean want) {
        RoofPigeons x = Checks.taught("roofs 0;build 0 when " + test + ";");
        Checks.due("how many orders are carried out when " + test, x.passDays(1), want ? 1 : 0);
    }

    private static void dueAllHold(String... tests) {
        for (String test : tests) {
            dueHolds(test, true);
        }
    }

    /** 2147483647, without a sum or product that wraps around. */
    private static final String MOST = "(46341*46340+41707)";
    private static final String LEAST = "(-" + MOST + "-1)";

    private static void sumsWrap() {
        dueHolds(MOST + " > 0", true);
        dueHolds(MOST + " + 1 < 0", true);
        dueHolds(MOST + " + 1 = " + LEAST, true);
        dueHolds("1 + " + MOST + " = " + LEAST, true);
        dueHolds(MOST + " + " + MOST + " = -2", true);
        dueHolds(LEAST + " + " + LEAST + " = 0", true);
        dueHolds(MOST + " + 0 = " + MOST, true);
    }

    private static void differencesWrap() {
        dueHolds(LEAST + " < 0", true);
        dueHolds(LEAST + " - 1 > 0", true);
        dueHolds(LEAST + " - 1 = " + MOST, true);
        dueHolds(MOST + " - " + LEAST + " = -1", true);
        dueHolds("0 - " + LEAST + " = " + LEAST, true);
        dueHolds("-" + LEAST + " = " + LEAST, true);
        dueHolds(LEAST + " - 0 = " + LEAST, true);
    }

    private static void productsWrap() {
        dueHolds("46340 * 46340 > 0", true);
        dueHolds("46341 * 46341 < 0", true);
        dueHolds("32768 * 65536 = " + LEAST, true);
        dueHolds("65536 * 65536 = 0", true);
        dueHolds("65537 * 65536 = 65536", true);
        dueHolds(LEAST + " * -1 = " + LEAST, true);
        dueHolds(MOST + " * " + MOST + " = 1", true);
    }

    private static void quotientsAreCut() {
        dueHolds("7 / 2 = 3", true);
        dueHolds("-7 / 2 = -3", true);
        dueHolds("7 / -2 = -3", true);
        dueHolds("-7 / -2 = 3", true);
        dueHolds("1 / 2 = 0", true);
        dueHolds("-1 / 2 = 0", true);
        dueHolds("6 / 2 = 3", true);
        dueHolds("-6 / 2 = -3", true);
        dueHolds(LEAST + " / 2 = -32768 * 32768", true);
        dueHolds(LEAST + " / " + MOST + " = -1", true);
        dueHolds(MOST + " / " + LEAST + " = 0", true);
    }

    private static void quotientsByZero() {
        dueHolds("7 / 0 = 0", true);
        dueHolds("-7 / 0 = 0", true);
        dueHolds("0 / 0 = 0", true);
        dueHolds("0 / 7 = 0", true);
        dueHolds(MOST + " / 0 = 0", true);
        dueHolds(LEAST + " / (1 - 1) = 0", true);
    }

    private static void leastByMinusOne() {
        dueHolds(LEAST + " / -1 = " + LEAST, true);
        dueHolds(LEAST + " / -1 < 0", true);
        dueHolds(LEAST + " / 1 = " + LEAST, true);
        dueHolds(MOST + " / -1 = -" + MOST, true);
        dueHolds("(" + LEAST + " + 1) / -1 = " + MOST, true);
    }

    private static void positions() {
        Checks.dueErrorAtMark(1, "@!");
        Checks.dueErrorAtMark(1, " @!");
        Checks.dueErrorAtMark(1, "\n\n@!");
        Checks.dueErrorAtMark(1, "roofs 1;\n@!");
        Checks.dueErrorAtMark(5, "roofs @21;");
        Checks.dueErrorAtMark(1, Checks.times(1999, " ") + "@!");
    }

    // ---- the tape

    private static void tapeOf2000() {
        RoofPigeons x = new RoofPigeons();
        for (int bytes = 20; bytes <= 2000; bytes += 20) {
            Checks.due("feed", x.feed(0x20202020, 0x20202020, 0x20202020, 0x20202020, 0x20202020), bytes);
        }
        Checks.noState("feed beyond 2000", () -> x.feed(0x20202020, 0x20202020, 0x20202020, 0x20202020, 0x20202020));
        Checks.due("trim(2000)", x.trim(2000), 2000);
        // the first and the last of 2000 bytes belong to tokens
        String text = "roofs 1" + Checks.times(1992, "\n") + ";";
        Checks.due("the length of the text", text.length(), 2000);
        Checks.dueNoError(text);
    }

    private static void tapeAtFirst() {
        RoofPigeons x = new RoofPigeons();
        Checks.due("trim(0) at first", x.trim(0), 0);
        Checks.noArgument("trim(1) at first", () -> x.trim(1));
        Checks.due("teach() at first", x.teach(), 1);
        Checks.due("errorAt()", x.errorAt(), 0);
        Checks.due("the first feed", new RoofPigeons().feed(0, 0, 0, 0, 0), 20);
        // "roof" "s 3 " "2 1;" "!!!!" "!!!!": 12 bytes are kept, and 20 blanks follow
        RoofPigeons y = new RoofPigeons();
        y.feed(0x726f6f66, 0x73203320, 0x3220313b, 0x21212121, 0x21212121);
        Checks.due("trim(12)", y.trim(12), 12);
        Checks.due("feed", y.feed(0x20202020, 0x20202020, 0x20202020, 0x20202020, 0x20202020), 32);
        Checks.due("teach()", y.teach(), 0);
        Checks.due("towers()", y.towers(), 3);
    }

    private static void tapeBehindTeach() {
        String[] texts = {
            "roofs 1;", "", "roofs 1", ONE_PIGEON + "pigeon a at 0 loud 1;", "roofs 1;hop a left;",
            "roofs" + Checks.times(17, " 1") + ";", "roofs 21;", "roofs 1;" + Checks.times(1992, " "),
        };
        int[] errors = {0, 1, 1, 2, 3, 4, 5, 0};
        for (int k = 0; k < texts.length; k++) {
            RoofPigeons x = new RoofPigeons();
            Checks.due("teach() of \"" + texts[k] + "\"", Checks.teach(x, texts[k]), errors[k]);
            Checks.noArgument("trim(1) behind teach()", () -> x.trim(1));
            Checks.due("trim(0) behind teach()", x.trim(0), 0);
            Checks.due("teach() behind teach()", x.teach(), 1);
            Checks.due("errorAt()", x.errorAt(), 0);
            Checks.due("feed behind teach()", x.feed(0, 0, 0, 0, 0), 20);
        }
    }

    // ---- tokens

    private static void blanks() {
        String words = "roofs 3 1 ; pigeon a at 0 loud 1 ; build ( 1 + 2 ) when [ 1 <= 2 ] and hears a a or dry 0 ; hop a right ;";
        String[] betweens = {" ", "\n", "  ", "\n\n", " \n ", "\n \n"};
        for (String between : betweens) {
            String text = words.replace(" ", between);
            Checks.dueNoError(text);
            Checks.dueNoError(between + text);
            Checks.dueNoError(text + between);
            Checks.dueNoError(between + text + between + between);
        }
        // the bytes beside 10 and 32, others that are blank elsewhere, and those 128 above
        int[] bytes = {0, 9, 11, 12, 13, 31, 33, 138, 160};
        for (int b : bytes) {
            Checks.dueErrorAtMark(1, "@" + (char) b + "roofs 1;");
            Checks.dueErrorAtMark(1, "roofs@" + (char) b + "1;");
            Checks.dueErrorAtMark(1, "roofs 1;@" + (char) b);
        }
    }

    private static void blanksThatAreNeeded() {
        Checks.due("towers() with a blank between", Checks.taught("roofs 1 2;").towers(), 2);
        Checks.due("towers() with a line end between", Checks.taught("roofs 1\n2;").towers(), 2);
        Checks.due("towers() without", Checks.taught("roofs 12;").towers(), 1);
        Checks.dueErrorAtMark(1, "@roofs1;");
        Checks.dueErrorAtMark(1, "@roofspigeon 1;");
        Checks.dueErrorAtMark(1, "roofs 1;@pigeona at 0 loud 1;");
        Checks.dueErrorAtMark(1, "roofs 1;pigeon a @at0 loud 1;");
        Checks.dueErrorAtMark(1, "roofs 1;build 0 when @not1=1;");
        Checks.dueErrorAtMark(1, "roofs 1;build 0 when 1< @=2;");
        Checks.dueErrorAtMark(1, "roofs 1;build 0 when 1>\n@=2;");
        // others would not be read as one
        Checks.dueNoError("roofs 1;pigeon a at 0loud 1;build(0)when[1<=2]and 1=2or 1=1;hop a left;");
        Checks.dueNoError("roofs 1;build 1-1+-1when 1<-1;");
    }

    private static void longestToken() {
        dueHolds("1<=1", true);
        dueHolds("1>=1", true);
        dueHolds("1<=-1", false);
        Checks.dueErrorAtMark(1, "roofs 1;build 0 when 1<=@=1;");
        Checks.dueErrorAtMark(1, "roofs 1;build 0 when 1>=@=1;");
        Checks.dueErrorAtMark(1, "roofs 1;build 0 when 1=@<1;");
        Checks.dueErrorAtMark(1, "roofs 1;build 0 when 1=@>1;");
        Checks.dueErrorAtMark(1, "roofs 1;build 0 when 1<@>1;");
        Checks.dueErrorAtMark(1, "roofs 1;build 0 when 1>@>=1;");
        Checks.due("heightOf(0) of 12", Checks.taught("roofs 12;").heightOf(0), 12);
        Checks.dueErrorAtMark(1, "roofs 1;build 0 @when1=1;");
        Checks.dueErrorAtMark(1, "roofs 1;pigeon a at 0 @loud1;");
        Checks.dueNoError("roofs 1;pigeon roofsa at 0 loud 1;pigeon orand at 0 loud 1;pigeon min0 at 0 loud 1;hop orand left;");
        // not 6 digits and one more, nor 10 letters and one more
        Checks.dueErrorAtMark(1, "roofs @1234567;");
        Checks.dueErrorAtMark(1, "roofs 1;pigeon @abcdefghijk at 0 loud 1;");
        // a word does not begin with a digit
        Checks.dueErrorAtMark(1, "roofs 12@ab;");
    }

    private static void wordsOf10() {
        for (char sign : LETTERS.toCharArray()) {
            Checks.dueNoError("roofs 1;pigeon " + sign + " at 0 loud 1;");
            Checks.dueNoError("roofs 1;pigeon z" + sign + " at 0 loud 1;");
        }
        for (char sign : DIGITS.toCharArray()) {
            Checks.dueNoError("roofs 1;pigeon a" + sign + " at 0 loud 1;");
            Checks.dueErrorAtMark(1, "roofs 1;pigeon @" + sign + "a at 0 loud 1;");
        }
        // the bytes beside a to z, A to Z and 0 to 9, and letters of other alphabets
        for (char sign : "`{[AZ/:_\u00e4\u00df".toCharArray()) {
            Checks.dueErrorAtMark(1, "roofs 1;pigeon @" + sign + " at 0 loud 1;");
            Checks.dueErrorAtMark(1, "roofs 1;pigeon a@" + sign + " at 0 loud 1;");
        }
        Checks.dueError("roofs 1;pigeon a@ at 0 loud 1;", 1, 16);
        for (String name : new String[] {"abcdefghij", "zzzzzzzzzz", "a123456789", "abcdefgh00", "a"}) {
            Checks.dueNoError("roofs 1;pigeon " + name + " at 0 loud 1;hop " + name + " left;");
        }
        for (String name : new String[] {"abcdefghijk", "zzzzzzzzzz0", "a1234567890", Checks.times(100, "a")}) {
            Checks.dueErrorAtMark(1, "roofs 1;pigeon @" + name + " at 0 loud 1;");
        }
    }

    private static void numbersOf6() {
        for (int digit = 0; digit <= 9; digit++) {
            Checks.due("heightOf(0)", Checks.taught("roofs " + digit + ";").heightOf(0), digit);
            Checks.due("heightOf(0)", Checks.taught("roofs 1" + digit + ";").heightOf(0), 10 + digit);
        }
        Checks.due("heightOf(0) of 6 digits", Checks.taught("roofs 000019;").heightOf(0), 19);
        Checks.due("heightOf(0) of 6 zeros", Checks.taught("roofs 000000;").heightOf(0), 0);
        Checks.dueErrorAtMark(1, "roofs @0000019;");
        Checks.dueErrorAtMark(1, "roofs @0000000;");
        dueHolds("999999 = 1000 * 1000 - 1", true);
        dueHolds("123456 = 123 * 1000 + 456", true);
        Checks.dueErrorAtMark(1, "roofs 1;build @1000000;");
        Checks.dueErrorAtMark(1, "roofs 1;build @" + Checks.times(100, "9") + ";");
        Checks.dueErrorAtMark(1, "roofs @-1;");
        Checks.dueErrorAtMark(1, "roofs 1@.5;");
    }

    private static void symbols() {
        String text = "roofs 1;build(1+2-3*4/5)when[1<2]and 2>1and 1=1and 1<=1and 1>=min(1,0);";
        for (String symbol : SYMBOLS) {
            Checks.due("whether " + symbol + " stands in the text", text.contains(symbol), true);
        }
        Checks.due("how many orders are carried out", Checks.taught(text).passDays(1), 1);
        String others = LETTERS + DIGITS + " \n" + String.join("", SYMBOLS);
        for (int b = 0; b < 256; b++) {
            if (others.indexOf(b) < 0) {
                // a token could follow here, a symbol even without an error
                Checks.dueError("roofs 1;build 1" + (char) b + "1;", 1, 15);
            }
        }
    }

    private static void keywords() {
        Checks.due("how many keywords there are", KEYWORDS.length, 27);
        for (String keyword : KEYWORDS) {
            Checks.dueErrorAtMark(1, "roofs 1;pigeon @" + keyword + " at 0 loud 1;");
            Checks.dueErrorAtMark(1, ONE_PIGEON + "hop @" + keyword + " left;");
        }
    }

    private static void otherWords() {
        Set<String> all = Set.of(KEYWORDS);
        for (String keyword : KEYWORDS) {
            String shorter = keyword.substring(0, keyword.length() - 1);
            String later = keyword.substring(1);
            for (String name : new String[] {shorter, later, keyword + "s", keyword + "0", "a" + keyword}) {
                Checks.due("whether " + name + " is a keyword", all.contains(name), false);
                Checks.dueNoError("roofs 1;pigeon " + name + " at 0 loud 1;glide " + name + " left;");
            }
        }
        Checks.dueErrorAtMark(1, "@Roofs 1;");
    }

    // ---- grammar

    private static void xOrNothing() {
        Checks.dueNoError("roofs 1;build 0;");
        Checks.dueNoError("roofs 1;build 0 when 1=1;");
        Checks.dueErrorAtMark(1, "roofs 1;build 0 when 1=1 @when 1=1;");
        Checks.dueErrorAtMark(1, "roofs 1;build 0 @[when 1=1];");
    }

    private static void xAnyTimes() {
        Checks.dueNoError("roofs 1;");
        Checks.dueNoError("roofs 1 1;");
        Checks.dueNoError("roofs" + Checks.times(16, " 1") + ";");
        Checks.dueNoError("roofs 1;" + Checks.times(16, "build 1;"));
        Checks.dueNoError(BUILD + "1" + Checks.times(197, "+1") + ";");
        Checks.dueNoError(BUILD + "1" + Checks.times(197, "-1") + ";");
        Checks.dueNoError(BUILD + "1" + Checks.times(197, "*1") + ";");
        Checks.dueNoError(BUILD + "1" + Checks.times(197, "/1") + ";");
        // 7 tokens, 3 for the last comparison, 4 for each one ahead: 398 of 400
        Checks.dueNoError("roofs 1;build 0 when " + Checks.times(97, "1=1and ") + "1=1;");
        Checks.dueNoError("roofs 1;build 0 when " + Checks.times(97, "1=1or ") + "1=1;");
        Checks.dueErrorAtMark(1, "roofs @;");
    }

    private static void alternatives() {
        Checks.dueErrorAtMark(1, ONE_PIGEON + "@left a;");
        Checks.dueErrorAtMark(1, ONE_PIGEON + "hop @glide a left;");
        Checks.dueErrorAtMark(1, ONE_PIGEON + "hop a left @right;");
        Checks.dueErrorAtMark(1, ONE_PIGEON + "hop a @|left;");
        Checks.dueErrorAtMark(1, ONE_PIGEON + "hop @\"a\" left;");
        Checks.dueErrorAtMark(1, WHEN + "hears @over a a;");
        Checks.dueErrorAtMark(1, WHEN + "1 < @> 1;");
        Checks.dueErrorAtMark(1, BUILD + "day @rain;");
        Checks.dueErrorAtMark(1, BUILD + "min @max(1,1);");
    }

    private static void skyline() {
        for (String text : new String[] {"roofs 1;", "roofs 1 2;", "roofs 1;build 0;", "roofs 1;build 0;wear 0;"}) {
            Checks.dueNoError(text);
        }
        String[] wrong = {
            "@", "@;", "@1;", "@build 0;", "@a;", "roofs@", "roofs @;", "roofs @roofs 1;", "roofs @a;", "roofs @(1);",
            "roofs 1@", "roofs 1 2@", "roofs 1@,2;", "roofs 1 @build 0;", "roofs 1;@;", "roofs 1;@1;", "roofs 1;@roofs 1;",
            "roofs 1;build 0@", "roofs 1;build 0 @build 0;", "roofs 1;build 0;@;", "roofs 1;build 0;@1;",
        };
        dueAllWrong("", wrong);
    }

    private static void line() {
        Checks.dueNoError("roofs 1;pigeon a at 0 loud 1;");
        Checks.dueNoError("roofs 1;build 0;pigeon a at 0 loud 1;hop a left;hop a left when 1=1;pigeon b at 0 loud 9;wear 0 when 1=1;");
        String[] wrong = {
            "pigeon@", "pigeon@;", "pigeon @at 0 loud 1;", "pigeon @1 at 0 loud 1;", "pigeon a@", "pigeon a@;", "pigeon a @0 loud 1;", "pigeon a @loud 1 at 0;",
            "pigeon a at@", "pigeon a at@;", "pigeon a at @loud 1;", "pigeon a at @b loud 1;", "pigeon a at @-0 loud 1;", "pigeon a at 0@", "pigeon a at 0@;",
            "pigeon a at 0 @1;", "pigeon a at 0@+0 loud 1;", "pigeon a at 0 loud@", "pigeon a at 0 loud @;",
            "pigeon a at 0 loud @(1);", "pigeon a at 0 loud 1@", "pigeon a at 0 loud 1 @1;", "pigeon a at 0 loud 1 @when 1=1;",
            "@a at 0 loud 1;", "@when 1=1;", "@at 0;", "build 0 when@", "build 0 when @;", "build 0 @1=1;", "build 0 when @build 0;",
        };
        dueAllWrong("roofs 1;", wrong);
    }

    private static void order() {
        for (String order : new String[] {"hop a left", "hop a right", "glide a left", "glide a right", "build 0", "wear 0"}) {
            Checks.dueNoError(ONE_PIGEON + order + ";");
        }
        String[] wrong = {
            "hop@", "hop @;", "hop @left;", "hop @1 left;", "hop @(a) left;", "hop a@", "hop a @;", "hop a @a left;", "hop a @when 1=1;",
            "hop a left @left;", "glide@", "glide @;", "glide @right;", "glide a@", "glide a @;", "glide a @1;", "glide a right@",
            "build@", "build @;", "build @a;", "build @left;", "build @when 1=1;", "build 0 @0;", "build 0 @left;", "build @build 0;",
            "wear@", "wear @;", "wear @a;", "wear 0 @0;", "wear @[0];", "@left a;", "@day;",
        };
        dueAllWrong(ONE_PIGEON, wrong);
    }

    private static void test() {
        for (String test : new String[] {"1=1", "1=1 or 1=1", "1=1 or 1=1 or 1=1", "1=1 and 1=1 or 1=1 and 1=1"}) {
            Checks.dueNoError(WHEN + test + ";");
        }
        dueAllWrong(WHEN, "1=1 or@", "1=1 or @;", "@or 1=1;", "1=1 or @or 1=1;", "1=1 or @and 1=1;", "1=1 or 1 @or 1=1;", "1=1 or @a;");
    }

    private static void both() {
        for (String test : new String[] {"1=1", "1=1 and 1=1", "1=1 and 1=1 and 1=1", "not 1=1 and not 1=1"}) {
            Checks.dueNoError(WHEN + test + ";");
        }
        dueAllWrong(WHEN, "1=1 and@", "1=1 and @;", "@and 1=1;", "1=1 and @and 1=1;", "1=1 and @or 1=1;", "1=1 and 1 @and 1=1;", "1=1 @1=1;");
    }

    private static void single() {
        String[] right = {
            "not 1=1", "not not 1=1", "not [1=1]", "not hears a a", "not dry 0", "[1=1]", "[[1=1]]", "[not 1=1 or 1=1 and 1=1]",
            "hears a a", "over a a", "dry 0", "dry 1+1*2", "1<1", "1>1", "1=1", "1<=1", "1>=1", "1+1*2<1-1/2", "(1)=(1)", "-1=-1",
        };
        for (String test : right) {
            Checks.dueNoError(WHEN + test + ";");
        }
        String[] wrong = {
            "not@", "not @;", "not 1@;", "not @and 1=1;", "[@", "[@];", "[1=1@", "[1=1@;", "[1=1@);", "[1=1]@];", "[1@]=1;", "[1=1]@=1;",
            "hears@", "hears @;", "hears a@", "hears a@;", "hears a@,a;", "hears a a @a;", "hears @1 a;", "hears a @0;", "hears a a@=1;",
            "over@", "over @;", "over a@;", "over a @1;", "over a @over;", "dry@", "dry @;", "dry @[0];", "dry @a;", "dry 0@=0;",
            "1@", "1@;", "1@!=1;", "1=@", "1=@;", "1=1@=1;", "1=1@<1;", "(1@=1);", "@a=1;", "1=@a;", "1=@not 1;", "1=@[1];", "@=1;",
        };
        dueAllWrong(WHEN, wrong);
        // two as great are the boundary of each comparison
        String[] holding = {"1<2", "1<=2", "1<=1", "1=1", "1>=1", "2>=1", "2>1"};
        String[] notHolding = {"1<1", "2<1", "2<=1", "1=2", "2=1", "1>=2", "1>1", "1>2"};
        for (String test : holding) {
            dueHolds(test, true);
            dueHolds("not " + test, false);
            dueHolds("[" + test + "]", true);
        }
        for (String test : notHolding) {
            dueHolds(test, false);
            dueHolds("not " + test, true);
            dueHolds("[" + test + "]", false);
        }
    }

    private static void sum() {
        for (String sum : new String[] {"1", "1+1", "1-1", "1+1-1+1", "1--1", "1+-1", "1*1+1*1"}) {
            Checks.dueNoError(BUILD + sum + ";");
        }
        dueAllHold("1+2=3", "1-2=-1", "1-2+3=2", "1-2-3=-4", "1-(2-3)=2", "1--2=3", "1+2*3=7", "2*3+1=7", "7-6/2=4");
        dueAllWrong(BUILD, "@+1;", "1+@", "1+@;", "1+@+1;", "1-@", "1-@;", "1-@+1;", "1-@*1;", "1 @1;", "1+@[1];", "1+@a;");
    }

    private static void product() {
        for (String sum : new String[] {"1", "1*1", "1/1", "1*1/1*1", "1*-1", "1/-1", "1/0"}) {
            Checks.dueNoError(BUILD + sum + ";");
        }
        dueAllHold("2*3=6", "7/2*2=6", "2*7/2=7", "8/4/2=1", "8/(4/2)=4", "2*-3=-6", "-6/3=-2");
        dueAllWrong(BUILD, "@*1;", "@/1;", "1*@", "1*@;", "1*@*1;", "1/@", "1/@;", "1/@/1;", "1*@+1;", "1/@a;", "1*@);");
    }

    private static void value() {
        String[] right = {
            "0", "999999", "day", "rain", "seen", "towers", "noise of a", "place of a", "height(0)", "-1", "--1", "(1)", "((1))",
            "min(1,1)", "max(1,1)", "-day", "-height(0)", "height(-1)", "min(max(1,1),height(0))", "(1+1*2)", "min(1+1,1*1)",
        };
        for (String sum : right) {
            Checks.dueNoError(ONE_PIGEON + "build " + sum + ";");
        }
        String[] wrong = {
            "noise@", "noise @a;", "noise @;", "noise of@", "noise of @;", "noise of @1;", "noise of @(a);", "noise of a @a;",
            "place@", "place @a;", "place @(a);", "place of@", "place of @;", "place of @left;", "place of a@(1);",
            "height@", "height @0;", "height @;", "height @[0];", "height(@", "height(@;", "height(@);", "height(0@", "height(0@;", "height(0@,0);",
            "-@", "-@;", "-@+1;", "-@a;", "(@", "(@);", "(1@", "(1@;", "(1@];", "(1)@);", "(1)@(1);", "(1@=1);",
            "min@", "min @1,1;", "min(@", "min(@,1);", "min(1@", "min(1@;", "min(1@);", "min(1 @1);", "min(1,@", "min(1,@;", "min(1,@);",
            "min(1,1@", "min(1,1@;", "min(1,1@,1);", "max@", "max @;", "max(@);", "max(1@;", "max(1@);", "max(1,@);", "max(1,1@];",
            "seen@(1);", "towers@(1);", "day @1;", "rain @rain;", "@of a;", "@not 1;", "@[1];", "@,;", "@);",
        };
        dueAllWrong(ONE_PIGEON + "build ", wrong);
        dueAllHold("min(1,2)=1", "min(2,1)=1", "min(2,2)=2", "min(-1,0)=-1", "min(0,-1)=-1", "1+min(2,3)*2=5");
        dueAllHold("max(1,2)=2", "max(2,1)=2", "max(2,2)=2", "max(-1,0)=0", "max(0,-1)=0", "1+max(2,3)*2=7");
        dueAllHold("-1*2=-2", "--1=1", "-(1-2)=1", "-1-1=-2", "(1-2)*3=-3", "-height(0)=0", "-towers=-1");
    }

    private static void dueAllWrong(String head, String... wrong) {
        for (String tail : wrong) {
            Checks.dueErrorAtMark(1, head + tail);
        }
    }

    // ---- depth

    /** 1 in so many brackets. */
    private static String in(int brackets) {
        return Checks.times(brackets, "(") + "1" + Checks.times(brackets, ")");
    }

    private static String inTest(int brackets) {
        return Checks.times(brackets, "[") + "1=1" + Checks.times(brackets, "]");
    }

    private static void depthAtTheBeginning() {
        Checks.dueNoError(BUILD + in(8) + ";");
        // what was ahead does not count: a line, a sum ahead of a test, a first side
        Checks.dueNoError(BUILD + in(8) + " when " + in(8) + "=" + in(8) + ";wear " + in(8) + " when " + inTest(8) + ";");
        Checks.dueNoError(WHEN + "dry " + in(8) + ";");
        Checks.dueErrorAtMark(1, BUILD + in(8) + ";wear " + Checks.times(8, "(") + "@(1);");
    }

    private static void depthOfRound() {
        Checks.dueNoError(BUILD + in(8) + "+" + in(8) + "*" + in(8) + ";");
        Checks.dueErrorAtMark(1, BUILD + "((((((((@(1)))))))));");
        Checks.dueNoError(BUILD + "(" + in(7) + "+" + in(7) + ");");
        Checks.dueErrorAtMark(1, BUILD + "(" + in(7) + "+(((((((@(1);");
        Checks.dueNoError(BUILD + "height(" + in(7) + ")+height(" + in(7) + ");");
        Checks.dueErrorAtMark(1, BUILD + "height((((((((@(1);");
        Checks.dueNoError(BUILD + "min(" + in(7) + "," + in(7) + ");");
        Checks.dueErrorAtMark(1, BUILD + "min((((((((@(1);");
        Checks.dueErrorAtMark(1, BUILD + "min(1,(((((((@(1);");
        Checks.dueNoError(BUILD + "max(" + in(7) + "," + in(7) + ");");
        Checks.dueErrorAtMark(1, BUILD + "max(" + in(7) + ",(((((((@(1);");
        Checks.dueErrorAtMark(1, BUILD + "((((((((height@(1);");
        Checks.dueErrorAtMark(1, BUILD + "((((((((min@(1,1);");
        Checks.dueErrorAtMark(1, BUILD + "((((((((max@(1,1);");
        Checks.dueNoError(BUILD + "(((((((height(1)))))))+1);");
    }

    private static void depthOfSquare() {
        Checks.dueNoError(WHEN + inTest(8) + " and " + inTest(8) + " or " + inTest(8) + ";");
        Checks.dueErrorAtMark(1, WHEN + "[[[[[[[[@[1=1];");
        Checks.dueNoError(WHEN + "[" + inTest(7) + " or " + inTest(7) + "] and " + inTest(8) + ";");
        Checks.dueErrorAtMark(1, WHEN + "[" + inTest(7) + " or [[[[[[[@[1=1];");
        Checks.dueNoError(WHEN + "[[[[[[[" + in(1) + "=" + in(1) + "]]]]]]];");
        Checks.dueErrorAtMark(1, WHEN + "[[[[[[[[@(1)=1]]]]]]]];");
        Checks.dueErrorAtMark(1, WHEN + "[[[[[[[[1=@(1)]]]]]]]];");
        Checks.dueErrorAtMark(1, WHEN + "[[[[[[[[dry @-1]]]]]]]];");
        Checks.dueErrorAtMark(1, WHEN + "[[[[[[[[@not 1=1]]]]]]]];");
    }

    private static void depthOfMinus() {
        Checks.dueNoError(BUILD + "--------1;");
        Checks.dueErrorAtMark(1, BUILD + "--------@-1;");
        Checks.dueNoError(BUILD + "-------(1);");
        Checks.dueErrorAtMark(1, BUILD + "--------@(1);");
        Checks.dueErrorAtMark(1, BUILD + "--------height@(1);");
        // it turns a value alone: behind that the depth is as it was
        Checks.dueNoError(BUILD + "--------1+" + in(8) + ";");
        Checks.dueNoError(BUILD + "--------1*" + in(8) + "/--------1;");
        Checks.dueNoError(BUILD + "-(((((((1)))))))+--------towers;");
        Checks.dueErrorAtMark(1, BUILD + "-(((((((@-1)))))));");
        // a - between two products is not in front of a value
        Checks.dueNoError(BUILD + "1" + Checks.times(9, "-1") + ";");
        Checks.dueNoError(BUILD + "((((((((1-1-1))))))))-" + in(8) + ";");
        Checks.dueErrorAtMark(1, BUILD + "((((((((1-@-1))))))));");
    }

    private static void depthOfNot() {
        String not8 = Checks.times(8, "not ");
        Checks.dueNoError(WHEN + not8 + "1=1;");
        Checks.dueErrorAtMark(1, WHEN + not8 + "@not 1=1;");
        Checks.dueErrorAtMark(1, WHEN + not8 + "@[1=1];");
        Checks.dueErrorAtMark(1, WHEN + not8 + "@(1)=1;");
        Checks.dueErrorAtMark(1, WHEN + not8 + "1=@(1);");
        Checks.dueErrorAtMark(1, WHEN + not8 + "dry @-1;");
        Checks.dueNoError(WHEN + not8 + "hears a a and " + not8 + "over a a;");
        // it turns a single alone: behind that the depth is as it was
        Checks.dueNoError(WHEN + not8 + "1=1 and " + in(8) + "=1 or " + inTest(8) + ";");
        Checks.dueNoError(WHEN + "not " + inTest(7) + " and " + not8 + "1=1;");
        Checks.dueErrorAtMark(1, WHEN + "not [[[[[[[@[1=1];");
    }

    private static void depthOf8() {
        // not 1, [ 2, not 3, [ 4, - 5, ( 6, - 7, ( 8
        Checks.dueNoError(WHEN + "not [not [-(-(1))=1]];");
        Checks.dueErrorAtMark(1, WHEN + "not [not [-(-(@-1))=1]];");
        Checks.dueErrorAtMark(1, WHEN + "not [not [-(-(@(1)))=1]];");
        Checks.dueErrorAtMark(1, WHEN + "not [not [-(-(1+height@(1)))=1]];");
        Checks.dueNoError(WHEN + "not [not [not [not [1=1]]]];");
        Checks.dueErrorAtMark(1, WHEN + "not [not [not [not [@not 1=1]]]];");
        Checks.dueErrorAtMark(1, WHEN + "not [not [not [not [@[1=1]]]]];");
    }

    // ---- error 1

    private static void firstWrongToken() {
        Checks.dueErrorAtMark(1, "roofs 1 @! ) ;");
        Checks.dueErrorAtMark(1, "roofs 1;build @) 1=1 when;");
        Checks.dueErrorAtMark(1, "roofs 1;hop a @1;build;");
        Checks.dueErrorAtMark(1, "@1234567 roofs 1;!");
        // what would be wrong behind the last token that fits is not yet wrong at that one
        Checks.dueErrorAtMark(1, "roofs 1;build min(1@);");
        Checks.dueErrorAtMark(1, "roofs 1;build 0 when dry 0@=0;");
        Checks.dueErrorAtMark(1, "roofs 1;build 0 when ((1))@;");
        Checks.dueErrorAtMark(1, "roofs 1;build 0 when (1)@;");
        Checks.dueErrorAtMark(1, "roofs 1 2 3 @build 0;");
    }

    private static void noToken() {
        String others = LETTERS + DIGITS + " \n" + String.join("", SYMBOLS);
        for (int b = 0; b < 256; b++) {
            if (others.indexOf(b) < 0) {
                Checks.dueError((char) b + "roofs 1;", 1, 0);
                Checks.dueError("roofs " + (char) b + "1;", 1, 6);
                Checks.dueError("roofs 1;" + (char) b, 1, 8);
            }
        }
    }

    private static void tooLong() {
        Checks.dueNoError("roofs 1;pigeon abcdefghij at 0 loud 1;");
        Checks.dueErrorAtMark(1, "roofs 1;pigeon @abcdefghijk at 0 loud 1;");
        Checks.dueErrorAtMark(1, "roofs 1;@pigeonpigeon a at 0 loud 1;");
        Checks.dueErrorAtMark(1, "@roofsroofsr 1;");
        Checks.dueErrorAtMark(1, "roofs 1;build @abcdefghijk;");
        Checks.dueErrorAtMark(1, "roofs 1;hop @abcdefghijk");
        Checks.dueNoError("roofs 000001;pigeon a at 000000 loud 000001;build 000001;");
        Checks.dueErrorAtMark(1, "roofs @0000001;");
        Checks.dueErrorAtMark(1, "roofs 1;pigeon a at @0000000 loud 1;");
        Checks.dueErrorAtMark(1, "roofs 1;pigeon a at 0 loud @0000001;");
        Checks.dueErrorAtMark(1, "roofs 1;build @0000001");
    }

    private static void endOfTheTape() {
        Checks.dueErrorAtMark(1, "@");
        Checks.dueErrorAtMark(1, " \n @");
        Checks.dueErrorAtMark(1, "roofs@");
        Checks.dueErrorAtMark(1, "roofs 1@");
        Checks.dueErrorAtMark(1, "roofs 1 \n@");
        Checks.dueErrorAtMark(1, "roofs 1;build 0 when 1<@");
        Checks.dueErrorAtMark(1, Checks.times(2000, " ") + "@");
        Checks.dueErrorAtMark(1, "roofs 1" + Checks.times(1993, " ") + "@");
        // what is trimmed off is behind the end
        RoofPigeons x = new RoofPigeons();
        Checks.type(x, "roofs 1;build 0;");
        x.trim(15);
        Checks.due("teach() behind trim(15)", x.teach(), 1);
        Checks.due("errorAt()", x.errorAt(), 15);
    }

    private static void depthOf9() {
        Checks.dueErrorAtMark(1, BUILD + "((((((((@(");
        Checks.dueErrorAtMark(1, BUILD + "--------@-");
        Checks.dueErrorAtMark(1, WHEN + "[[[[[[[[@[");
        Checks.dueErrorAtMark(1, WHEN + Checks.times(8, "not ") + "@not");
        Checks.dueErrorAtMark(1, BUILD + Checks.times(8, "height(") + "height@(");
        Checks.dueErrorAtMark(1, BUILD + Checks.times(8, "min(1,") + "max@(");
        // as many as the tape and its tokens hold
        Checks.dueErrorAtMark(1, BUILD + "((((((((@" + Checks.times(1900, "("));
        Checks.dueErrorAtMark(1, BUILD + "--------@" + Checks.times(1900, "-"));
        Checks.dueErrorAtMark(1, WHEN + "[[[[[[[[@" + Checks.times(1900, "["));
        Checks.dueErrorAtMark(1, WHEN + Checks.times(8, "not ") + "@" + Checks.times(380, "not "));
        // the 8th one is none: its end is missing
        Checks.dueErrorAtMark(1, BUILD + "((((((((@");
        Checks.dueErrorAtMark(1, BUILD + "--------@");
        Checks.dueErrorAtMark(1, WHEN + "[[[[[[[[@");
        Checks.dueErrorAtMark(1, WHEN + Checks.times(8, "not ") + "@");
    }

    private static void token401() {
        // 3 tokens, 2 tokens, 2 for each "+1", and the ";"
        String full = "roofs 1;build 0" + Checks.times(197, "+1") + ";";
        Checks.dueNoError(full);
        Checks.dueNoError(full + "\n ");
        Checks.dueErrorAtMark(1, full + "@wear 0;");
        Checks.dueErrorAtMark(1, full + " @build");
        Checks.dueErrorAtMark(1, full + "\n@;");
        Checks.dueErrorAtMark(1, full + "@!");
        Checks.dueErrorAtMark(1, full + "@1234567");
        // 399 tokens: the 400th one may be any that fits, the 401st may not
        String fitting = "roofs 1;build 0" + Checks.times(196, "+1") + ";pigeon";
        Checks.dueErrorAtMark(1, fitting + "@");
        Checks.dueErrorAtMark(1, fitting + " a@");
        Checks.dueErrorAtMark(1, fitting + " a @at 0 loud 1;");
        // one token less: 401 of them are 400 and the end of the tape
        Checks.dueNoError("roofs 1;build 0" + Checks.times(196, "-1") + ";");
        Checks.dueErrorAtMark(1, "roofs 1 1;build 0" + Checks.times(197, "+1") + "@;");
        Checks.dueErrorAtMark(1, "roofs 1 1;build 0" + Checks.times(197, "+1") + " @");
    }

    private static void firstByte() {
        Checks.dueErrorAtMark(1, "roofs 1;build 0 @<= 1;");
        Checks.dueErrorAtMark(1, "roofs 1;  @towers;");
        Checks.dueErrorAtMark(1, "roofs 1;build \n @pigeon;");
        Checks.dueErrorAtMark(1, "roofs 1;pigeon  @123456 at 0 loud 1;");
        Checks.dueErrorAtMark(2, "roofs 1;pigeon abc at 0 loud 1;pigeon  @abc at 0 loud 1;");
        Checks.dueErrorAtMark(3, "roofs 1;hop \n@abcdefghij left;");
        Checks.dueErrorAtMark(4, "roofs 1;" + Checks.times(16, "build 0;") + " @build 0;");
        Checks.dueErrorAtMark(5, "roofs  @000021;");
    }

    // ---- errors 1 to 5

    private static void errorOneAheadOfAll() {
        Checks.dueErrorAtMark(1, ONE_PIGEON + "pigeon a at 0 loud 1;@;");
        Checks.dueErrorAtMark(1, "roofs 1;hop b left;build @;");
        Checks.dueErrorAtMark(1, "roofs" + Checks.times(17, " 1") + "@");
        Checks.dueErrorAtMark(1, "roofs 21;@!");
        Checks.dueErrorAtMark(1, "roofs 1;pigeon a at 1 loud 0@");
        Checks.dueErrorAtMark(1, "roofs 1;" + Checks.times(17, "build 0;") + "@build1;");
        Checks.dueErrorAtMark(1, "roofs 1;hop b @;");
        Checks.dueErrorAtMark(1, "roofs 30;build 0" + Checks.times(197, "+1") + ";@;");
        Checks.dueErrorAtMark(5, "roofs @30;build 0" + Checks.times(197, "+1") + ";");
    }

    private static void fromLeftToRight() {
        Checks.dueErrorAtMark(5, "roofs @21 22;pigeon a at 2 loud 0;hop b left;");
        Checks.dueErrorAtMark(5, "roofs 1;pigeon a at @1 loud 0;pigeon a at 0 loud 1;");
        Checks.dueErrorAtMark(5, "roofs 1;pigeon a at 0 loud @0;pigeon a at 0 loud 1;");
        Checks.dueErrorAtMark(2, ONE_PIGEON + "pigeon @a at 1 loud 0;hop b left;");
        Checks.dueErrorAtMark(3, "roofs 1;hop @b left;pigeon a at 1 loud 0;");
        Checks.dueErrorAtMark(3, "roofs 1;build place of @b when hears c d;");
        Checks.dueErrorAtMark(4, "roofs" + Checks.times(16, " 1") + " @1;hop b left;");
        Checks.dueErrorAtMark(5, "roofs" + Checks.times(15, " 1") + " @21 21;hop b left;");
        // the 17th order has an error 4 at its first word, and one behind it
        Checks.dueErrorAtMark(4, "roofs 1;" + Checks.times(16, "build 0;") + "@hop b left;");
        Checks.dueErrorAtMark(3, "roofs 1;" + Checks.times(15, "build 0;") + "hop @b left;build 0;");
    }

    private static void smallestNumber() {
        Checks.dueErrorAtMark(4, "roofs" + Checks.times(16, " 1") + " @21;");
        String eight = "roofs 1;" + pigeons(8);
        Checks.dueErrorAtMark(2, eight + "pigeon @p0 at 0 loud 1;");
        Checks.dueErrorAtMark(2, eight + "pigeon @p7 at 0 loud 1;");
        Checks.dueErrorAtMark(4, eight + "pigeon @p8 at 0 loud 1;");
    }

    /** Lines of so many pigeons, p0 and so on. */
    private static String pigeons(int count) {
        StringBuilder text = new StringBuilder();
        for (int k = 0; k < count; k++) {
            text.append("pigeon p").append(k).append(" at 0 loud ").append(k + 1).append(';');
        }
        return text.toString();
    }

    private static void nameToldAhead() {
        Checks.dueErrorAtMark(2, ONE_PIGEON + "pigeon @a at 0 loud 1;");
        Checks.dueErrorAtMark(2, "roofs 1;" + pigeons(7) + "pigeon @p0 at 0 loud 1;");
        Checks.dueErrorAtMark(2, "roofs 1;" + pigeons(7) + "pigeon @p6 at 0 loud 1;");
        Checks.dueErrorAtMark(2, ONE_PIGEON + "build 0;hop a left;pigeon @a at 0 loud 1;pigeon a at 0 loud 1;");
        Checks.dueErrorAtMark(2, "roofs 1;pigeon abcdefghij at 0 loud 1;pigeon @abcdefghij at 0 loud 1;");
        Checks.dueNoError(ONE_PIGEON + "pigeon aa at 0 loud 1;pigeon a0 at 0 loud 1;pigeon b at 0 loud 1;pigeon a00 at 0 loud 1;");
        Checks.dueNoError("roofs 1;pigeon abcdefghij at 0 loud 1;pigeon abcdefghii at 0 loud 1;pigeon bbcdefghij at 0 loud 1;"
                + "pigeon abcdefghi at 0 loud 1;pigeon ab at 0 loud 1;pigeon ba at 0 loud 1;pigeon az at 0 loud 1;");
        // a name that only an earlier skyline told is free
        RoofPigeons x = Checks.taught(ONE_PIGEON);
        Checks.due("teach() again", Checks.teach(x, ONE_PIGEON), 0);
    }

    private static void nameNotTold() {
        String[] wrong = {
            "hop @b left;", "glide @b right;", "build noise of @b;", "wear place of @b;", "build 0 when hears @b a;",
            "build 0 when hears a @b;", "build 0 when over @b a;", "build 0 when over a @b;", "hop a left when hears a a and over @c b;",
            "hop @b left;pigeon b at 0 loud 1;", "hop @aa left;", "hop @a0 left;", "build 0 when 1=noise of @b;",
        };
        for (String tail : wrong) {
            Checks.dueErrorAtMark(3, ONE_PIGEON + tail);
        }
        Checks.dueErrorAtMark(3, "roofs 1;glide @a left;");
        Checks.dueErrorAtMark(3, "roofs 1;hop @a left;pigeon a at 0 loud 1;");
        Checks.dueNoError(ONE_PIGEON + "hop a left;pigeon b at 0 loud 1;hop b left when hears a b;");
        Checks.dueNoError("roofs 1;" + pigeons(8) + "hop p0 left;hop p7 left;");
        Checks.dueErrorAtMark(3, "roofs 1;" + pigeons(7) + "hop @p7 left;");
        // a name that only an earlier skyline told is not told
        RoofPigeons x = Checks.taught(ONE_PIGEON);
        Checks.due("teach() again", Checks.teach(x, "roofs 1;hop a left;"), 3);
    }

    private static void roof17() {
        Checks.due("towers() of 16", Checks.taught("roofs" + Checks.times(16, " 7") + ";").towers(), 16);
        Checks.dueErrorAtMark(4, "roofs" + Checks.times(16, " 7") + " @7;");
        Checks.dueErrorAtMark(4, "roofs" + Checks.times(16, " 7") + " @8 9 10;");
    }

    private static void pigeon9() {
        Checks.due("pigeons() of 8", Checks.taught("roofs 1;" + pigeons(8)).pigeons(), 8);
        Checks.dueErrorAtMark(4, "roofs 1;" + pigeons(8) + "pigeon @p8 at 0 loud 1;");
        Checks.dueErrorAtMark(4, "roofs 1;" + pigeons(8) + "build 0;pigeon @p8 at 5 loud 0;pigeon p9 at 0 loud 1;");
    }

    private static void order17() {
        String orders = ONE_PIGEON + Checks.times(4, "hop a left;glide a left;build 0;wear 0;");
        Checks.dueNoError(orders);
        Checks.dueNoError(orders + "pigeon b at 0 loud 1;");
        Checks.dueErrorAtMark(4, orders + "@hop a left;");
        Checks.dueErrorAtMark(4, orders + "@glide a left;");
        Checks.dueErrorAtMark(4, orders + "@build 0;build 0;");
        Checks.dueErrorAtMark(4, orders + "pigeon b at 0 loud 1;@wear 0 when 1=2;");
    }

    private static void height21() {
        Checks.due("heightOf(0) of 20", Checks.taught("roofs 20;").heightOf(0), 20);
        Checks.dueErrorAtMark(5, "roofs @21;");
        Checks.dueErrorAtMark(5, "roofs 20 @21;");
        Checks.dueErrorAtMark(5, "roofs" + Checks.times(15, " 20") + " @21;");
        Checks.dueErrorAtMark(5, "roofs @999999;");
        Checks.dueNoError("roofs 0 20;build 999999 when height(21)=21;");
    }

    private static void noTower() {
        Checks.due("placeOf(0) of the first", Checks.taught("roofs 1 1;pigeon a at 0 loud 1;").placeOf(0), 0);
        Checks.due("placeOf(0) of the last", Checks.taught("roofs 1 1;pigeon a at 1 loud 1;").placeOf(0), 1);
        Checks.dueErrorAtMark(5, "roofs 1 1;pigeon a at @2 loud 1;");
        Checks.dueErrorAtMark(5, "roofs 1;pigeon a at @1 loud 1;");
        Checks.dueErrorAtMark(5, "roofs 1;pigeon a at @999999 loud 1;");
        String full = "roofs" + Checks.times(16, " 1") + ";";
        Checks.dueNoError(full + "pigeon a at 15 loud 1;");
        Checks.dueErrorAtMark(5, full + "pigeon a at @16 loud 1;");
    }

    private static void loud10() {
        Checks.due("loudnessOf(0) of 1", Checks.taught("roofs 1;pigeon a at 0 loud 1;").loudnessOf(0), 1);
        Checks.due("loudnessOf(0) of 9", Checks.taught("roofs 1;pigeon a at 0 loud 9;").loudnessOf(0), 9);
        Checks.dueErrorAtMark(5, "roofs 1;pigeon a at 0 loud @0;");
        Checks.dueErrorAtMark(5, "roofs 1;pigeon a at 0 loud @10;");
        Checks.dueErrorAtMark(5, "roofs 1;pigeon a at 0 loud @999999;");
    }

    // ---- how it begins

    private static void towersFrom0() {
        RoofPigeons x = Checks.taught("roofs 1 2 3 4 5 6 7 8 9 10 11 12 13 14 15 16;pigeon a at 15 loud 1;");
        for (int tower = 0; tower < 16; tower++) {
            Checks.due("heightOf(" + tower + ")", x.heightOf(tower), tower + 1);
        }
        Checks.noIndex("heightOf(16)", () -> x.heightOf(16));
        Checks.due("placeOf(0)", x.placeOf(0), 15);
    }

    private static void pigeonsAndOrdersFrom0() {
        RoofPigeons x = Checks.taught("roofs 1;" + pigeons(4) + "build 0;" + pigeons(8).substring(pigeons(4).length()));
        for (int pigeon = 0; pigeon < 8; pigeon++) {
            Checks.due("loudnessOf(" + pigeon + ")", x.loudnessOf(pigeon), pigeon + 1);
        }
        Checks.noIndex("loudnessOf(8)", () -> x.loudnessOf(8));
        // each of 16 orders needs what the one ahead did
        StringBuilder text = new StringBuilder("roofs 0;");
        for (int order = 0; order < 16; order++) {
            text.append("build 0 when height(0)=").append(order).append(';');
        }
        RoofPigeons y = Checks.taught(text.toString());
        Checks.due("passDays(1)", y.passDays(1), 16);
        Checks.due("heightOf(0)", y.heightOf(0), 16);
    }

    private static void heightsThatAreTold() {
        RoofPigeons x = Checks.taught("roofs 20 0 1 19 0000 007;");
        int[] heights = {20, 0, 1, 19, 0, 7};
        for (int tower = 0; tower < heights.length; tower++) {
            Checks.due("heightOf(" + tower + ")", x.heightOf(tower), heights[tower]);
        }
        Checks.due("towers()", x.towers(), 6);
    }

    private static void emptySkyline() {
        RoofPigeons x = new RoofPigeons();
        Checks.due("towers()", x.towers(), 1);
        Checks.due("heightOf(0)", x.heightOf(0), 0);
        Checks.due("trapped()", x.trapped(), 0);
        Checks.noState("wear(0)", () -> x.wear(0));
        Checks.due("seenFromLeft()", x.seenFromLeft(), 1);
        Checks.due("seenFromRight()", x.seenFromRight(), 1);
        Checks.due("highest()", x.highest(), 0);
    }
}
