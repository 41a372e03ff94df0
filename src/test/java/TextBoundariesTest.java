/** Promises 2 to 5 at the document's edges: THE TAPE, THE TEXT (section I), its FAULTS and their places, which ^ marks. */
public final class TextBoundariesTest extends Check {
    private static final String STEP = "let a=1+1 round 0";
    private static final String[] KEYS = {"input", "from", "to", "let", "round", "pick", "then", "else"};
    private static final int BLANKS = 0x20202020;

    public static void main(String[] args) {
        runAll(TextBoundariesTest.class);
    }

    private static String blanks(int n) {
        return " ".repeat(n);
    }

    private static int feedBlanks(RoundedSums x) {
        return x.feed(BLANKS, BLANKS, BLANKS, BLANKS, BLANKS);
    }

    private static String inputs(int n) {
        StringBuilder s = new StringBuilder();
        for (int i = 0; i < n; i++) {
            s.append("input ").append((char) ('x' + i)).append(" from 0 to 2;");
        }
        return s.toString();
    }

    private static String steps(int n) {
        StringBuilder s = new StringBuilder();
        for (int i = 0; i < n; i++) {
            s.append("let ").append((char) ('a' + i)).append("=1+1 round 0;");
        }
        return s.toString();
    }

    private static String withoutLast(String text) {
        return text.substring(0, text.length() - 1);
    }

    // ---- promise 2: feed

    static void promise02_eachFeedBringsTwentyBytesUpToFiveHundred() {
        RoundedSums x = new RoundedSums();
        for (int i = 1; i <= 25; i++) {
            due("feed " + i, feedBlanks(x), 20 * i);
        }
    }

    static void promise02_beyondFiveHundredNoneComes() {
        RoundedSums x = new RoundedSums();
        String text = STEP + blanks(500 - STEP.length());
        due("the last that is taken", feed(x, text), 500);
        due("the first that is refused", x.feed(0x3b3b3b3b, 0, 0, 0, 0), -1);
        due("size", x.size(), 500);
        due("and again", x.feed(LEAST, MOST, -1, 0, 1), -1);
        due("size", x.size(), 500);
        taken(x, "the bytes are those of before", x.program(500), 1);
    }

    static void promise02_aTapeThatWasEmptiedTakesAsManyAgain() {
        RoundedSums x = new RoundedSums();
        feed(x, blanks(500));
        due("a fault empties it", x.program(500), -1);
        for (int i = 1; i <= 25; i++) {
            due("feed " + i, feedBlanks(x), 20 * i);
        }
        due("feed 26", feedBlanks(x), -1);
    }

    static void promise02_ofEachNumberTheHighestByteComesFirst() {
        RoundedSums x = new RoundedSums();
        // "let " "a=1+" "2 ro" "und " "0   "
        due("feed", x.feed(0x6c657420, 0x613d312b, 0x3220726f, 0x756e6420, 0x30202020), 20);
        taken(x, "program", x.program(17), 1);
        due("1 + 2", x.at(0, 0), 3);
    }

    static void promise02_bytesAbove127ComeToo() {
        for (int place = 0; place < 20; place++) {
            RoundedSums x = new RoundedSums();
            int[] four = {BLANKS, BLANKS, BLANKS, BLANKS, BLANKS};
            int shift = 24 - 8 * (place % 4);
            four[place / 4] = four[place / 4] & ~(255 << shift) | 0xff << shift;
            due("feed", x.feed(four[0], four[1], four[2], four[3], four[4]), 20);
            due("program", x.program(20), -1);
            due("fault", x.fault(), 1);
            due("where 255 is", x.where(), place);
        }
    }

    static void promise02_aFeedTakenOrRefusedTellsNoTrouble() {
        RoundedSums x = new RoundedSums();
        refused(x, "about", x.about(0), -1, 1);
        feed(x, blanks(500));
        due("taken", x.trouble(), 1);
        due("refused", feedBlanks(x), -1);
        due("trouble", x.trouble(), 1);
    }

    // ---- promise 3: program, its n

    static void promise03_nIsFromNoneToAllBytesOfTheTape() {
        RoundedSums x = new RoundedSums();
        feed(x, "let a=1+1 round    0");
        refused(x, "program(-1)", x.program(-1), -1, 2);
        refused(x, "program(least)", x.program(LEAST), -1, 2);
        refused(x, "program(21)", x.program(21), -1, 2);
        refused(x, "program(most)", x.program(MOST), -1, 2);
        due("THE TAPE stays", x.size(), 20);
        taken(x, "program(20)", x.program(20), 1);
    }

    static void promise03_nOfTheEmptyTapeIsNoneAlone() {
        RoundedSums x = new RoundedSums();
        refused(x, "program(1)", x.program(1), -1, 2);
        refused(x, "program(-1)", x.program(-1), -1, 2);
        due("fault", x.fault(), 0);
        due("program(0)", x.program(0), -1);
        due("trouble", x.trouble(), 4);
        due("fault", x.fault(), 1);
        due("where", x.where(), 0);
    }

    static void promise03_noneOfAFullTapeIsTheEmptyText() {
        RoundedSums x = new RoundedSums();
        feed(x, STEP + blanks(500 - STEP.length()));
        due("program(0)", x.program(0), -1);
        due("trouble", x.trouble(), 4);
        due("fault", x.fault(), 1);
        due("where", x.where(), 0);
        due("THE TAPE is empty then", x.size(), 0);
    }

    static void promise03_nOfTheFullTapeIsUpToFiveHundred() {
        RoundedSums x = new RoundedSums();
        // The grid is the last of 500 bytes.
        String text = "let a=1+1 round" + blanks(500 - 16) + "8";
        feed(x, text);
        refused(x, "program(501)", x.program(501), -1, 2);
        due("THE TAPE stays", x.size(), 500);
        taken(x, "program(500)", x.program(500), 1);
        due("grid", x.variable(0, 4), 8);
        feed(x, text);
        due("program(499)", x.program(499), -1);
        due("fault", x.fault(), 1);
        due("where", x.where(), 499);
    }

    static void promise03_refusedBy2AllStays() {
        RoundedSums x = of("input x from 0 to 8;let a=x*x round 2");
        x.set(0, 5);
        String before = state(x);
        feed(x, STEP);
        refused(x, "program(-1)", x.program(-1), -1, 2);
        refused(x, "program(21)", x.program(21), -1, 2);
        due("size", x.size(), 20);
        due("fault", x.fault(), 0);
        same("state", state(x), before);
        taken(x, "THE TAPE is what it was", x.program(17), 1);
    }

    static void promise03_refusedBy2AheadOfBy4() {
        RoundedSums x = new RoundedSums();
        feed(x, "!");
        refused(x, "program(21)", x.program(21), -1, 2);
        due("fault", x.fault(), 0);
        due("program(20)", x.program(20), -1);
        due("trouble", x.trouble(), 4);
    }

    static void promise03_onlyTheFirstNBytesAreLookedAt() {
        RoundedSums x = new RoundedSums();
        feed(x, "let a=1+1 round 08!");
        taken(x, "cut in a WHOLE", x.program(17), 1);
        due("grid", x.variable(0, 4), 0);
        feed(x, "let a=1+1 round 08!");
        taken(x, "the whole WHOLE", x.program(18), 1);
        due("grid", x.variable(0, 4), 8);
        feed(x, "let abcdefg=1+1 round 0");
        due("cut in a WORD", x.program(10), -1);
        due("where: the end, as the WORD is one of six", x.where(), 10);
        feed(x, "let abcdefg=1+1 round 0");
        due("the seventh letter", x.program(11), -1);
        due("where: at the first of seven", x.where(), 4);
    }

    static void promise03_theTapeIsEmptyThen() {
        RoundedSums x = new RoundedSums();
        feed(x, STEP + ";let b=a+a round 0");
        taken(x, "of 40 bytes 17", x.program(17), 1);
        due("size", x.size(), 0);
        refused(x, "the rest is gone", x.program(1), -1, 2);
        due("feed begins anew", feed(x, "let"), 20);
        due("a fault", x.program(3), -1);
        due("size", x.size(), 0);
    }

    static void promise03_aTakenTextIsTheProgramFromNowOn() {
        RoundedSums x = of("input x from 0 to 8;input y from 0 to 8;let a=x*y round 2;let b=pick a<9 then x else y round 3");
        due("grid", x.grid(2, 7), 2);
        due("range", x.range(0, -100, 100), true);
        due("set", x.set(1, 8), true);
        String text = "input x from -4 to 8;let a=x*x round 1";
        taken(x, "another", tell(x, text), 2);
        same("nothing is left of the one before", state(x), state(of(text)));
    }

    /** INPUTS and STEPS in unlike places, with and without DRIFT, picks that may part. */
    private static final String[] UNLIKE = {
        "input x from 0 to 8;input y from -6 to 2;let a=x*y round 2;let b=pick a<9 then x else y round 3",
        "let a=16*16 round 8;let b=3+0 round 5;input x from -4 to 4;let c=b*x round 4;let d=pick c<1 then b else a round 0",
        "let a=5+2 round 3;let b=a*a round 1;let c=pick a<b then 7 else a round 2;let d=c-b round 0;input x from 3 to 3",
        "input x from -1000 to 1000;input y from 1 to 1;input z from 0 to 2;let a=x-z round 0",
        "let a=1+1 round 0"};

    static void promise03_nothingIsLeftOfAnyProgramBefore() {
        for (String first : UNLIKE) {
            for (String second : UNLIKE) {
                for (String third : UNLIKE) {
                    RoundedSums x = of(first);
                    tell(x, second);
                    x.grid(3, 1);
                    x.range(0, -2, 2);
                    due("a fault", tell(x, first + ";"), -1);
                    due("taken", tell(x, third) > 0, true);
                    same("behind " + first + " and " + second, state(x), state(of(third)));
                }
            }
        }
    }

    static void promise03_variablesOfTheProgramBeforeAreGone() {
        String end = ";let c=1+2 round 3;let d=a*c round 3";
        goneBehind("let a=1+1 round 0;input x from 0 to 8" + end);
        goneBehind("let a=1+1 round 0;let p=pick a<2 then 1 else 0 round 0" + end);
        goneBehind("let a=1+1 round 0;let b=a*3 round 4" + end);
    }

    /** Told twice, so that nothing of what it was kept in is new to the third. */
    private static void goneBehind(String text) {
        RoundedSums x = of(text);
        due("the same again", tell(x, text), 4);
        due("another", tell(x, "let a=1+1 round 0"), 1);
        for (int v = 1; v <= 3; v++) {
            refused(x, "variable", x.variable(v, 0), NOTHING, 1);
            refused(x, "operand", x.operand(v, 0), -1, 1);
            refused(x, "set", x.set(v, 0), 1);
            refused(x, "at", x.at(v, 0), NOTHING, 1);
            refused(x, "went", x.went(v), -1, 1);
            refused(x, "form", x.form(v, true, -1), NOTHING, 1);
            refused(x, "reach", x.reach(v, true, 0), NOTHING, 1);
            refused(x, "bound", x.bound(v), NOTHING, 1);
            refused(x, "shared", x.shared(0, v), -1, 1);
            refused(x, "part", x.part(0, v), NOTHING, 1);
            refused(x, "blame", x.blame(v), -1, 1);
            refused(x, "may", x.may(v), -1, 1);
            refused(x, "split", x.split(v, 0, 0), NOTHING, 1);
            refused(x, "splits", x.splits(v, 0), -1, 1);
            refused(x, "climb", x.climb(v, 1, 0), NOTHING, 1);
            refused(x, "witness", x.witness(0, 1, 0, v), NOTHING, 1);
            refused(x, "worst", x.worst(v), NOTHING, 1);
            refused(x, "parts", x.parts(v, 1, 0), -1, 1);
            refused(x, "finer", x.finer(v, 0), -1, 1);
            refused(x, "grid", x.grid(v, 0), -1, 1);
            refused(x, "range", x.range(v, 0, 0), 1);
            due("doubtful", throwsNoSuch(x, v - 1), true);
        }
    }

    static void promise03_thePointIsFromOfEachInput() {
        String text = "let k=1+1 round 0;input x from -1000 to 1000;let a=x+k round 0;input y from 7 to 7;input z from 3 to 5";
        RoundedSums x = of(text);
        due("x", x.at(1, 0), -1000);
        due("y", x.at(3, 0), 7);
        due("z", x.at(4, 0), 3);
        due("set", x.set(1, 1000), true);
        due("set", x.set(4, 5), true);
        due("the same text again", tell(x, text), 5);
        due("x", x.at(1, 0), -1000);
        due("z", x.at(4, 0), 3);
    }

    static void promise03_refusedBy4AllStays() {
        RoundedSums x = of("input x from 0 to 8;let a=x*x round 2;let b=pick a<9 then x else 3 round 1");
        due("range", x.range(0, -4, 4), true);
        due("grid", x.grid(1, 3), 2);
        due("set", x.set(0, 2), true);
        String before = state(x);
        String[] texts = {"", "input q from 10 to 20;let z=q+q round 9", "input q from 10 to 20", "input q from 10 to 20;let z=1000*1000 round 0"};
        int[] faults = {1, 2, 6, 5};
        for (int i = 0; i < texts.length; i++) {
            due("a fault", tell(x, texts[i]), -1);
            due("trouble", x.trouble(), 4);
            due("fault", x.fault(), faults[i]);
            same("state behind " + texts[i], state(x), before);
        }
    }

    static void promise03_behindARefusedFirstProgramThereIsNone() {
        RoundedSums x = new RoundedSums();
        due("a fault", tell(x, "input x from 0 to 2;let a=x+x round 9"), -1);
        due("trouble", x.trouble(), 4);
        refused(x, "about", x.about(0), -1, 1);
        refused(x, "set", x.set(0, 0), 1);
        refused(x, "at", x.at(0, 0), NOTHING, 1);
        refused(x, "noise", x.noise(0, 0), -1, 1);
        due("doubtful", throwsNoSuch(x, 0), true);
        taken(x, "a good one", tell(x, STEP), 1);
    }

    static void promise03_itAnswersHowManyVariables() {
        good(STEP, 1);
        good(withoutLast(inputs(3) + steps(12)), 15);
        good(withoutLast(steps(12) + inputs(3)), 15);
    }

    // ---- promise 3: TOKENS

    static void promise03_blanksPartTokensAndMeanNothingElse() {
        good(" let a=1+1 round 0", 1);
        good("let a=1+1 round 0 ", 1);
        good("   let   a   =   1   +   1   round   0   ;   let   b   =   -   1   -   -   1   round   0   ", 2);
        good("let a=pick 1<2then 3else 4round 0;input x from 0to 2", 2);
        good("let a=1+1round0;let b=a+a round 0", 2);
        faulty(1, "let a=1+1 ^ro und 0");
        faulty(1, "let a=1 ^0+1 round 0");
        faulty(3, "let ab=1+1 round 0;let c=^a b+1 round 0");
    }

    static void promise03_blankIs32Alone() {
        for (int b = 0; b < 256; b++) {
            String text = "let" + (char) b + "a=1+1 round 0";
            if (b == 32) {
                good(text, 1);
            } else {
                // A letter makes a WORD that begins no LINE; anything else is nothing that comes behind let.
                faulty(text, 1, b >= 'a' && b <= 'z' ? 0 : 3);
            }
        }
    }

    static void promise03_wordsAreOfSmallLettersAlone() {
        for (int b = 0; b < 256; b++) {
            String text = "let " + (char) b + "=1+1 round 0";
            if (b >= 'a' && b <= 'z') {
                good(text, 1);
            } else {
                faulty(text, 1, b == 32 ? 5 : 4);
            }
        }
    }

    static void promise03_wholesAreOfDigitsAlone() {
        for (int b = 0; b < 256; b++) {
            String text = "let a=" + (char) b + "+1 round 0";
            if (b >= '0' && b <= '9') {
                RoundedSums x = of(text);
                due(text, x.at(0, 0), b - '0' + 1);
            } else if (b >= 'a' && b <= 'z') {
                faulty(text, 3, 6);
            } else {
                // Behind a blank and behind - it is + that can't be there.
                faulty(text, 1, b == 32 || b == '-' ? 7 : 6);
            }
        }
    }

    static void promise03_wordsAreOfOneToSixLetters() {
        good("let a=1+1 round 0", 1);
        good("let abcdef=1+1 round 0;let b=abcdef+abcdef round 0", 2);
        faulty(1, "let ^abcdefg=1+1 round 0");
        faulty(1, "let a=1+^abcdefg round 0");
        faulty(1, "^letinput");
        faulty(1, "let ^" + "a".repeat(300));
    }

    static void promise03_namesOfSixLettersAreToldApart() {
        // A WORD of six letters at both ends of the alphabet, and shorter ones that begin or end like it.
        RoundedSums x = of("let aaaaaa=1+0 round 0;let aaaaa=2+0 round 0;let zzzzzz=3+0 round 0;let zzzzz=4+0 round 0;let za=5+0 round 0;"
                + "let az=6+0 round 0;let a=7+0 round 0;let p=aaaaaa+aaaaa round 0;let q=zzzzzz+zzzzz round 0;let r=za+az round 0;let s=a+0 round 0");
        int[] want = {1, 2, 3, 4, 5, 6, 7, 3, 7, 11, 7};
        for (int v = 0; v < want.length; v++) {
            due("at " + v, x.at(v, 0), want[v]);
        }
        for (char c = 'a'; c <= 'z'; c++) {
            String one = String.valueOf(c);
            good("let " + one + "=1+1 round 0;let " + one.repeat(2) + "=1+1 round 0;let " + one.repeat(3) + "=1+1 round 0;let "
                    + one.repeat(4) + "=1+1 round 0;let " + one.repeat(5) + "=1+1 round 0;let " + one.repeat(6) + "=1+1 round 0", 6);
        }
        for (int place = 0; place < 6; place++) {
            StringBuilder other = new StringBuilder("mmmmmm");
            other.setCharAt(place, 'n');
            good("let mmmmmm=1+1 round 0;let " + other + "=mmmmmm+1 round 0", 2);
        }
    }

    static void promise03_wholesAreOfOneToFourDigits() {
        due("one", of("let a=7+0 round 0").at(0, 0), 7);
        due("four", of("let a=1000+0 round 0").at(0, 0), 1000);
        due("zeros ahead", of("let a=0007+0 round 0").at(0, 0), 7);
        due("of a grid", of("let a=7+0 round 0003").variable(0, 4), 3);
        due("of FROM", of("input x from 0007 to 0009;let a=7+0 round 0").at(0, 0), 7);
        faulty(1, "let a=^00007+0 round 0");
        faulty(1, "let a=0-^00007 round 0");
        faulty(1, "let a=7+0 round ^00000");
        faulty(1, "input x from ^00000 to 0");
        faulty(1, "input x from 0 to ^00000");
        faulty(1, "let a=^" + "1".repeat(300));
    }

    static void promise03_singleOnesStandAlone() {
        good("let a=1--1 round 0", 1);
        due("1 - -1", of("let a=1--1 round 0").at(0, 0), 2);
        faulty(1, "let a=^=1+1 round 0");
        faulty(1, "let a=1+^+1 round 0");
        faulty(1, "let a=pick 1<^<2");
        faulty(1, STEP + ";^;" + STEP);
    }

    // ---- promise 3: LINES and NUMBERS, what is taken

    static void promise03_ofAMinusItsWholeMayStandApart() {
        due("- 5", of("let a=- 5+0 round 0").at(0, 0), -5);
        due("0 - - 5", of("let a=0 - - 5 round 0").at(0, 0), 5);
        due("FROM", of("input x from - 6 to - 4;let a=0+0 round 0").at(0, 0), -6);
        due("-0", of("let a=-0-0 round 0").at(0, 0), 0);
        faulty(1, "let a=-^-5+0 round 0");
        faulty(1, "let b=1+1 round 0;let a=-^b+0 round 0");
        faulty(1, "let a=1+1 round ^-0");
    }

    static void promise03_aPickHasFourOperandsInTheirPlaces() {
        RoundedSums x = of("let a=pick -1<2 then -3 else -4 round 0;let b=pick 2<-1 then -3 else -4 round 0;let c=pick a<b then a else b round 0");
        due("then", x.at(0, 0), -3);
        due("else", x.at(1, 0), -4);
        due("by names", x.at(2, 0), -4);
    }

    static void promise03_variablesAreNumberedAsTheyAreTold() {
        RoundedSums x = of("let a=1+1 round 0;input x from 4 to 6;let b=a+x round 0;input y from 8 to 8");
        int[] input = {0, 1, 0, 1};
        int[] at = {2, 4, 6, 8};
        for (int v = 0; v < 4; v++) {
            due("input " + v, x.variable(v, 0), input[v]);
            due("at " + v, x.at(v, 0), at[v]);
        }
    }

    static void promise03_namesNearTheKeptWordsAreTaken() {
        for (String key : KEYS) {
            String shorter = key.substring(1);
            String other = key.length() < 6 ? key + "s" : key;
            good("let " + shorter + "=1+1 round 0;let " + other + "=" + shorter + "+1 round 0;let z=" + other + "-" + shorter + " round 0", 3);
            good("input " + shorter + " from 0 to 2;input " + other + " from 0 to 2;let z=" + other + "-" + shorter + " round 0", 3);
        }
    }

    static void promise03_aKeptWordWithOneOtherLetterIsAName() {
        for (String key : KEYS) {
            for (int place = 0; place < key.length(); place++) {
                StringBuilder near = new StringBuilder(key);
                near.setCharAt(place, near.charAt(place) == 'q' ? 'w' : 'q');
                good("let " + near + "=1+1 round 0;let z=" + near + "+1 round 0", 2);
            }
        }
    }

    // ---- promises 4 and 5: FAULT 1, FORM

    static void promise04_theEmptyTextIsOfNoForm() {
        faulty("", 1, 0);
        faulty(" ", 1, 1);
        faulty(blanks(500), 1, 500);
    }

    static void promise04_keptWordsAreNoNames() {
        for (String key : KEYS) {
            faulty(1, "let ^" + key + "=1+1 round 0");
            faulty(1, "input ^" + key + " from 0 to 2");
            faulty(1, "let a=1+^" + key + " round 0");
            faulty(1, "let a=pick 1<2 then ^" + key + " else 1 round 0");
            if (!key.equals("pick")) {
                faulty(1, "let a=^" + key + "+1 round 0");
            }
        }
        faulty(1, "let a=pick ^pick<1");
        faulty(1, "let a=pick^+1 round 0");
    }

    static void promise05_theEndIsMetAtItsPlaceWhereverALineIsCut() {
        String[] lines = {"input x from -2 to - 4", "let a = 1 + -2 round 3", "let a=pick 1 < 2 then - 3 else 4 round 5"};
        for (String line : lines) {
            for (int n = 0; n < line.length(); n++) {
                String cut = line.substring(0, n);
                // In a WORD that isn't whole yet the WORD is at fault; a NAME's or a WHOLE's beginning is one already.
                int start = n;
                while (start > 0 && cut.charAt(start - 1) >= 'a' && cut.charAt(start - 1) <= 'z') {
                    start--;
                }
                String last = cut.substring(start);
                boolean whole = last.isEmpty() || last.equals("x") || last.equals("a") || isKey(last);
                // The beginning of pick is the NAME of an OPERAND that isn't told.
                boolean unknown = !whole && cut.endsWith("=" + last);
                faulty(cut, unknown ? 3 : 1, whole ? n : start);
            }
        }
    }

    private static boolean isKey(String word) {
        for (String key : KEYS) {
            if (key.equals(word)) {
                return true;
            }
        }
        return false;
    }

    static void promise05_theEndIsBehindBlanks() {
        faulty("let ", 1, 4);
        faulty("let a=1+1 round   ", 1, 18);
        faulty(STEP + ";  ", 1, 20);
        faulty("input x from 0 to 2   ", 6, 22);
    }

    static void promise05_aTokenWithWhichNoProgramGoesOn() {
        faulty(1, "^a");
        faulty(1, "^1");
        faulty(1, "^;");
        faulty(1, "^;" + STEP);
        faulty(1, "^lets a=1+1 round 0");
        faulty(1, "^inputs x from 0 to 2");
        faulty(1, "let ^1=1+1 round 0");
        faulty(1, "let a^+1+1 round 0");
        faulty(1, "let a=1^;");
        faulty(1, "let a=1^<2 round 0");
        faulty(1, "let a=1 ^1");
        faulty(1, "let a=1+1^;");
        faulty(1, "let a=1+1^+1 round 0");
        faulty(1, "let a=1+1 ^then 0");
        faulty(1, "let a=1+1 round ^a");
        faulty(1, "let a=1+1 round ^;");
        faulty(1, "let a=pick 1^+2");
        faulty(1, "let a=pick 1^;");
        faulty(1, "let a=pick 1<2 ^else 3");
        faulty(1, "let a=pick 1<2 then 3 ^round 0");
        faulty(1, "let a=pick 1<2 then 3 else 4^;");
        faulty(1, "input ^1 from 0 to 2");
        faulty(1, "input x ^to 2 from 0");
        faulty(1, "input x from ^x to 2");
        faulty(1, "input x from ^to 2");
        faulty(1, "input x from 0 ^from 2");
        faulty(1, "input x from 0 to ^+2");
        faulty(1, "input x from 0 to 2^+1");
        faulty(1, "input x from 0 to 2 ^round 0");
        faulty(1, STEP + " ^0");
        faulty(1, STEP + " ^let b=1+1 round 0");
        faulty(1, STEP + "^=");
        faulty(1, STEP + ";^a");
        faulty(1, STEP + ";^then");
    }

    static void promise05_aWordNearTheOneThatIsDueIsNotIt() {
        String[] before = {"", "", "input x ", "input x from 0 ", "let a=1+1 ", "let a=pick 1<2 ", "let a=pick 1<2 then 3 "};
        String[] due = {"input", "let", "from", "to", "round", "then", "else"};
        for (int i = 0; i < due.length; i++) {
            for (int place = 0; place < due[i].length(); place++) {
                StringBuilder near = new StringBuilder(due[i]);
                near.setCharAt(place, 'q');
                faulty(1, before[i] + "^" + near + " 0");
            }
            faulty(1, before[i] + "^" + due[i] + "s 0");
            faulty(1, before[i] + "^" + due[i].substring(1) + " 0");
        }
    }

    static void promise05_whatStandsInAWord() {
        for (int b = 0; b < 256; b++) {
            String text = "let a" + (char) b + "=1+1 round 0";
            if (b == 32 || b >= 'a' && b <= 'z') {
                good(text, 1);
            } else {
                faulty(text, 1, b == '=' ? 6 : 5);
            }
        }
    }

    static void promise05_whatStandsInAWhole() {
        for (int b = 0; b < 256; b++) {
            String text = "let a=1" + (char) b + "+1 round 0";
            if (b >= '0' && b <= '9') {
                due(text, of(text).at(0, 0), 10 + b - '0' + 1);
            } else if (b == 32) {
                good(text, 1);
            } else {
                // Behind a sign it is + that can't be there.
                faulty(text, 1, b == '+' || b == '-' || b == '*' ? 8 : 7);
            }
        }
    }

    static void promise05_whatBeginsAWholeWhereOnlyAWholeMayBe() {
        for (int b = 0; b < 256; b++) {
            if (b >= '0' && b <= '9' || b == 32) {
                continue;
            }
            // A FAULT that a WHOLE would have, GREAT and BOUNDS, isn't met.
            faulty("let a=1000*1000 round " + (char) b, 1, 22);
            faulty("input x from 5 to " + (char) b, 1, b == '-' ? 19 : 18);
        }
    }

    static void promise05_aByteThatBeginsNoToken() {
        faulty(1, "let a=1+1 round 0^!");
        faulty(1, "let a=1+1 round 0^\n");
        faulty(1, "let a^\t=1+1 round 0");
        faulty(1, "let a=1+1 round 0;^\u00e9");
        faulty(1, "let a=1+1 round 0;let b=a^/a round 0");
        faulty(1, "let a=pick 1^>2 then 1 else 2 round 0");
        faulty(1, "let ^_a=1+1 round 0");
        faulty(1, "let a^_=1+1 round 0");
        faulty(1, "let a=1^.5+1 round 0");
        faulty(1, "let a=1^,000+1 round 0");
    }

    static void promise05_aByteThatBeginsNoTokenIsMetInItsTurn() {
        faulty(1, "let a=1^=!");
        faulty(2, "let a=1+1 round ^9!");
        faulty(3, "let a=^b+!");
        faulty(5, "let ^a=1000*1000 round 0!");
        faulty(1, "let a=1000*1000 round^!0");
    }

    // ---- promises 4 and 5: FAULT 2, a WHOLE out of bounds

    static void promise04_fromIsFromMinusThousandToThousand() {
        good("input x from -1000 to -1000;" + STEP, 2);
        good("input x from 1000 to 1000;" + STEP, 2);
        faulty(2, "input x from -^1001 to -999;" + STEP);
        faulty(2, "input x from - ^1001 to -999;" + STEP);
        faulty(2, "input x from ^1001 to 1001;" + STEP);
        faulty(2, "input x from ^9999 !");
        faulty(2, "input x from -^9999 !");
    }

    static void promise04_toIsUpToThousand() {
        good("input x from -1000 to 1000;" + STEP, 2);
        good("input x from 998 to 1000;" + STEP, 2);
        good("input x from 999 to 999;" + STEP, 2);
        faulty(2, "input x from 999 to ^1001;" + STEP);
        faulty(2, "input x from 1000 to ^1002;" + STEP);
        faulty(2, "input x from -1000 to -^1001;" + STEP);
        faulty(2, "input x from -1000 to -^1002;" + STEP);
        faulty(2, "input x from 0 to ^9999 !");
    }

    static void promise04_toIsFromAtLeast() {
        good("input x from 5 to 5;" + STEP, 2);
        good("input x from -5 to -5;" + STEP, 2);
        faulty(2, "input x from 5 to ^3;" + STEP);
        faulty(2, "input x from 5 to ^4;" + STEP);
        faulty(2, "input x from -5 to -^7;" + STEP);
        faulty(2, "input x from 5 to -^5;" + STEP);
        faulty(2, "input x from 1000 to -  ^1000;" + STEP);
    }

    static void promise04_theDifferenceIsEven() {
        good("input x from -3 to 3;" + STEP, 2);
        good("input x from -3 to -1;" + STEP, 2);
        good("input x from 0 to 2;" + STEP, 2);
        faulty(2, "input x from 0 to ^1;" + STEP);
        faulty(2, "input x from -1 to ^0;" + STEP);
        faulty(2, "input x from -4 to -^1;" + STEP);
        faulty(2, "input x from -1000 to ^999;" + STEP);
        faulty(2, "input x from 0 to ^999 !");
    }

    static void promise04_operandsAreFromMinusThousandToThousand() {
        String[] around = {"let a=#+0 round 0", "let a=0-# round 0", "let a=0*# round 0", "let a=pick #<0 then 0 else 0 round 0",
            "let a=pick 0<# then 0 else 0 round 0", "let a=pick 0<0 then # else 0 round 0", "let a=pick 0<0 then 0 else # round 0"};
        for (String text : around) {
            good(text.replace("#", "1000"), 1);
            good(text.replace("#", "-1000"), 1);
            faulty(2, text.replace("#", "^1001"));
            faulty(2, text.replace("#", "-^1001"));
            faulty(2, text.replace("#", "-  ^9999"));
        }
    }

    static void promise04_gridIsFrom0To8() {
        for (int k = 0; k <= 8; k++) {
            due("grid " + k, of("let a=1+1 round " + k).variable(0, 4), k);
        }
        faulty(2, "let a=1+1 round ^9");
        faulty(2, "let a=1+1 round ^0009");
        faulty(2, "let a=1+1 round ^9999");
        faulty(2, "let a=pick 1<1 then 1 else 1 round ^9");
        faulty(2, STEP + ";let b=1+1 round ^16;");
    }

    // ---- promises 4 and 5: FAULT 3, NAME

    static void promise04_aNameIsToldOnce() {
        faulty(3, STEP + ";let ^a=1+1 round 0");
        faulty(3, STEP + ";input ^a from 0 to 2");
        faulty(3, "input x from 0 to 2;input  ^x from 0 to 2");
        faulty(3, "input x from 0 to 2;let ^x=1+1 round 0");
        faulty(3, STEP + ";let ^a!");
        faulty(3, STEP + ";let ^a");
        faulty(3, STEP + ";input ^a from 2000");
        good(STEP + ";let aa=1+1 round 0", 2);
    }

    static void promise04_anOperandsNameIsToldAhead() {
        faulty(3, "let a=^b+1 round 0;let b=1+1 round 0");
        faulty(3, "let a=1+^b round 0");
        faulty(3, "let a=^a+1 round 0");
        faulty(3, "let a=1+^a round 9");
        faulty(3, "let a=pick ^b<1");
        faulty(3, "let a=pick 1<^b!");
        faulty(3, "let a=pick 1<1 then ^b");
        faulty(3, "let a=pick 1<1 then 1 else ^b");
        faulty(3, "let a=pick 1<1 then 1 else ^a round 0");
        faulty(3, "input x from 0 to 2;let a=^y+x round 0;input y from 0 to 2");
    }

    static void promise04_aProgramOfBeforeTellsNoNames() {
        RoundedSums x = of("input x from 0 to 2;let a=x+x round 0");
        due("x isn't told here", tell(x, "let a=x+1 round 0"), -1);
        due("fault", x.fault(), 3);
        due("where", x.where(), 6);
        due("a isn't told again", tell(x, STEP), 1);
    }

    static void promise04_aRefusedTextTellsNoNames() {
        RoundedSums x = new RoundedSums();
        due("refused", tell(x, "input x from 0 to 2;let b=x+x round 9"), -1);
        due("x isn't told", tell(x, "let a=x+1 round 0"), -1);
        due("fault", x.fault(), 3);
        due("where", x.where(), 6);
        due("b isn't told again", tell(x, "let b=1+1 round 0"), 1);
    }

    // ---- promises 4 and 5: FAULT 4, MANY

    static void promise04_inputsAreUpToThree() {
        good(inputs(2) + STEP, 3);
        good(inputs(3) + STEP, 4);
        faulty(4, inputs(3) + "^input w from 0 to 2;" + STEP);
        faulty(4, STEP + ";" + inputs(3) + "  ^input");
        faulty(4, inputs(2) + STEP + ";input w from 0 to 2;^input v from 0 to 2");
    }

    static void promise04_stepsAreUpToTwelve() {
        good(withoutLast(steps(11)), 11);
        good(withoutLast(steps(12)), 12);
        good(steps(12) + "input x from 0 to 2", 13);
        faulty(4, steps(12) + "^let n=1+1 round 0");
        faulty(4, steps(12) + "^let");
        faulty(4, steps(6) + inputs(3) + steps(12).substring(steps(6).length()) + "  ^let n=1+1 round 0");
    }

    static void promise04_manyIsMetAheadOfWhatIsBehindTheWord() {
        faulty(4, inputs(3) + "^input x");
        faulty(4, inputs(3) + "^input !");
        faulty(4, inputs(3) + "^input 5");
        faulty(4, inputs(3) + "^input w from 2000");
        faulty(4, steps(12) + "^let a");
        faulty(4, steps(12) + "^let n=1000*1000 round 9");
        faulty(1, inputs(3) + "^inputs");
        faulty(1, steps(12) + "^lets");
        faulty(1, inputs(3) + withoutLast(steps(12)) + ";^");
    }

    // ---- promises 4 and 5: FAULT 5, GREAT

    static void promise04_weightIsUpToAMillion() {
        // 999 * 1000 and 1, then 998 and 1 more.
        String big = "let big=999*1000 round 0;";
        good(big + "let a=big+998 round 0", 2);
        due("weight", of(big + "let a=big+998 round 0").variable(1, 6), 1_000_000);
        faulty(5, big + "let ^a=big+999 round 0");
        good(big + "let a=-998-big round 0", 2);
        faulty(5, big + "let ^a=-999-big round 0");
        faulty(5, "let ^a=1000*1000 round 0");
        faulty(5, "let ^a=-1000*1000 round 0");
        // 999 * 1001 is 999,999: c is 1,000,000, d 1,000,001.
        String factors = "let p=998+0 round 0;let q=1000+0 round 0;";
        good(factors + "let c=p*q round 0", 3);
        faulty(5, factors + "let ^c=p*q round 1");
    }

    static void promise04_weightOfAPickIsUpToAMillion() {
        // odd: 499 * 1000 and 1, and 996 and 1: 499,998. Twice it 999,996, 2 by the other OPERAND, 2 by round 1: 1,000,000.
        String odd = "let half=499*1000 round 0;let odd=half+996 round 0;";
        good(odd + "let a=pick 1<2 then odd else 1 round 1", 3);
        good(odd + "let a=pick 1<2 then 1 else odd round 1", 3);
        due("weight", of(odd + "let a=pick 1<2 then 1 else odd round 1").variable(2, 6), 1_000_000);
        faulty(5, odd + "let ^a=pick 1<2 then odd else 2 round 0");
        faulty(5, odd + "let ^a=pick 1<2 then 2 else odd round 0");
        faulty(5, odd + "let ^a=pick 1<2 then odd else 1 round 2");
        // What is tested weighs nothing.
        good(odd + "let a=pick odd<odd then 1 else 1 round 8", 3);
    }

    static void promise04_weightHas2ToGridMore() {
        String big = "let big=999*1000 round 0;";
        // 999,001 + 743 = 999,744, and 256.
        good(big + "let a=big+743 round 8", 2);
        faulty(5, big + "let ^a=big+744 round 8");
        good(big + "let a=big+744 round 7", 2);
    }

    static void promise05_greatIsAskedBehindTheLinesLastWhole() {
        String text = "let a=1000*1000 round 0";
        faulty(5, "let ^a=1000*1000 round 0");
        faulty(5, "let   ^a=1000*1000 round 0 ;");
        faulty(5, "let ^a=1000*1000 round 0 0");
        faulty(5, "let ^a=1000*1000 round 0;let b=");
        faulty(1, "let a=1000*1000 round^");
        faulty(1, "let a=1000*1000 ^then 0");
        faulty(2, "let a=1000*1000 round ^9");
        faulty(1, "let a=1000*1000 round ^00000");
        faulty(1, "let a=1000*1000^;" + text);
        faulty(5, STEP + ";let ^b=1000*1000 round 0;let b=b+b round 0");
        faulty(5, "let ^a=1000*1000 round 0;let b=1000*1000 round 0");
    }

    // ---- promises 4 and 5: FAULT 6, LACKS

    static void promise04_aProgramHasAStep() {
        faulty(6, "input x from 0 to 2^");
        faulty(6, withoutLast(inputs(3)) + "^");
        good("input x from 0 to 2;" + STEP, 2);
        good(STEP + ";input x from 0 to 2", 2);
    }

    static void promise04_ofOnePlaceTheLeastNumber() {
        // At the end of these there is no STEP, too.
        faulty(1, "^");
        faulty(1, "input x from 0 to 2;^");
        faulty(1, "input x from 0 to^");
        // Out of bounds, and not even, and less than FROM: one fault of one place.
        faulty(2, "input x from 1 to -^9998");
    }

    static void promise04_theFirstThatIsMetFromTheLeft() {
        faulty(2, "input x from ^2000 to !;let x=y+1 round 9");
        faulty(3, "input x from 0 to 2;let ^x=y+1 round 9");
        faulty(3, "input x from 0 to 2;let a=^y+2000 round 9");
        faulty(2, "input x from 0 to 2;let a=x+^2000 round 9");
        faulty(1, "input x from 0 to 2;let a=x ^x");
        faulty(2, "let a=1000*^1001 round 0");
    }

    // ---- promises 4 and 5 over several calls

    static void promise04_faultIs0WithoutOne() {
        RoundedSums x = new RoundedSums();
        due("a new object", x.fault(), 0);
        due("a taken one", tell(x, STEP), 1);
        due("fault", x.fault(), 0);
    }

    static void promise04_itIsOfTheLatestProgramNotRefusedBy2() {
        RoundedSums x = new RoundedSums();
        String[] texts = {"", "let a=1+1 round 9", "let a=b+1 round 0", inputs(3) + "input", "let a=1000*1000 round 0", "input x from 0 to 2"};
        for (int i = 0; i < texts.length; i++) {
            due(texts[i], tell(x, texts[i]), -1);
            due("fault", x.fault(), i + 1);
            due("refused by 2", x.program(501), -1);
            due("fault", x.fault(), i + 1);
            due("where", x.where(), -1);
            due("refused by 1", x.about(5), -1);
            due("fault", x.fault(), i + 1);
        }
        due("a taken one", tell(x, STEP), 1);
        due("fault", x.fault(), 0);
        due("refused by 2", x.program(501), -1);
        due("fault", x.fault(), 0);
    }

    static void promise05_whereIsNoneBehindAnyOtherCallThatMayBeRefused() {
        String[] calls = {"about", "variable", "set", "split", "program"};
        for (int i = 0; i < calls.length; i++) {
            RoundedSums x = of("input x from 0 to 4;let a=x+x round 1");
            due("a fault", tell(x, "let a=1+1 round 9"), -1);
            due("where", x.where(), 16);
            switch (i) {
                case 0:
                    x.about(0);
                    break;
                case 1:
                    x.variable(9, 0);
                    break;
                case 2:
                    x.set(0, 2);
                    break;
                case 3:
                    x.split(1, 41, 0);
                    break;
                default:
                    x.program(1);
                    break;
            }
            due("where behind " + calls[i], x.where(), -1);
            due("fault behind " + calls[i], x.fault(), 2);
        }
    }

    static void promise05_whereStaysBehindCallsThatTellNoTrouble() {
        RoundedSums x = new RoundedSums();
        due("a fault", tell(x, "let a=1+1 round 9"), -1);
        due("size", x.size(), 0);
        due("feed", feedBlanks(x), 20);
        due("fault", x.fault(), 2);
        due("trouble", x.trouble(), 4);
        due("doubtful", throwsNoSuch(x, 0), true);
        due("where", x.where(), 16);
        due("where", x.where(), 16);
        due("another", tell(x, "let"), -1);
        due("where: blanks were on THE TAPE", x.where(), 3);
    }

    static void promise05_whereIsNoneOfANewObjectAndOfATakenProgram() {
        RoundedSums x = new RoundedSums();
        due("new", x.where(), -1);
        due("a fault", x.program(0), -1);
        due("where", x.where(), 0);
        due("taken", tell(x, STEP), 1);
        due("where", x.where(), -1);
    }
}
