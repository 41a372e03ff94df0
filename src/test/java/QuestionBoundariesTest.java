/** Promises 1 and 6 to 19 at the document's edges: what is asked of a PROGRAM, at THE POINT, of FORMS (sections II, III). */
public final class QuestionBoundariesTest extends Check {
    /** x (0) 0 .. 8, a (1) = x * x round 2, p (2) = pick a < 9 then x else 3 round 1. */
    private static final String PLAIN = "input x from 0 to 8;let a=x*x round 2;let p=pick a<9 then x else 3 round 1";

    public static void main(String[] args) {
        runAll(QuestionBoundariesTest.class);
    }

    // ---- promise 1: a new object

    /** Every call that needs a PROGRAM is refused by 1, be its numbers good or bad. */
    private static void hasNoProgram(RoundedSums x) {
        for (int n : new int[] {0, 1, -1, LEAST, MOST}) {
            refused(x, "about", x.about(n), -1, 1);
            refused(x, "variable", x.variable(0, n), NOTHING, 1);
            refused(x, "operand", x.operand(n, 0), -1, 1);
            refused(x, "set", x.set(0, n), 1);
            refused(x, "at", x.at(n, 0), NOTHING, 1);
            refused(x, "went", x.went(n), -1, 1);
            refused(x, "form", x.form(0, false, n), NOTHING, 1);
            refused(x, "reach", x.reach(n, true, 0), NOTHING, 1);
            refused(x, "bound", x.bound(n), NOTHING, 1);
            refused(x, "noise", x.noise(n, 0), -1, 1);
            refused(x, "shared", x.shared(n, n), -1, 1);
            refused(x, "part", x.part(n, n), NOTHING, 1);
            refused(x, "blame", x.blame(n), -1, 1);
            refused(x, "may", x.may(n), -1, 1);
            refused(x, "split", x.split(0, n, 0), NOTHING, 1);
            refused(x, "splits", x.splits(0, n), -1, 1);
            refused(x, "climb", x.climb(0, n, n), NOTHING, 1);
            refused(x, "witness", x.witness(0, n, n, 0), NOTHING, 1);
            refused(x, "worst", x.worst(n), NOTHING, 1);
            refused(x, "parts", x.parts(0, n, n), -1, 1);
            refused(x, "finer", x.finer(0, n), -1, 1);
            refused(x, "grid", x.grid(0, n), -1, 1);
            refused(x, "range", x.range(0, n, n), 1);
            due("doubtful", throwsNoSuch(x, n), true);
        }
    }

    static void promise01_aNewObjectHasNoProgram() {
        hasNoProgram(new RoundedSums());
    }

    static void promise01_aNewObjectTellsNothing() {
        RoundedSums x = new RoundedSums();
        due("trouble", x.trouble(), 0);
        due("fault", x.fault(), 0);
        due("where", x.where(), -1);
        due("size", x.size(), 0);
        due("NONE", RoundedSums.NONE, -1);
        due("NOTHING", RoundedSums.NOTHING, NOTHING);
    }

    static void promise01_aFirstProgramThatIsRefusedLeavesItSo() {
        RoundedSums byNumber = new RoundedSums();
        due("refused by 2", byNumber.program(1), -1);
        hasNoProgram(byNumber);
        RoundedSums byFault = new RoundedSums();
        due("refused by 4", tell(byFault, PLAIN + ";"), -1);
        hasNoProgram(byFault);
    }

    static void promise01_bytesOnTheTapeAreNoProgram() {
        RoundedSums x = new RoundedSums();
        feed(x, PLAIN);
        hasNoProgram(x);
    }

    static void promise01_objectsShareNothing() {
        RoundedSums x = of(PLAIN);
        RoundedSums y = new RoundedSums();
        due("size", feed(x, "let"), 20);
        due("size", y.size(), 0);
        refused(y, "about", y.about(0), -1, 1);
        due("trouble of x", x.trouble(), 0);
        RoundedSums z = of(PLAIN);
        due("set", x.set(0, 4), true);
        due("grid", x.grid(1, 0), 2);
        due("z", z.at(0, 0), 0);
        due("z", z.variable(1, 4), 2);
    }

    static void promise01_upTo512CallsAllIsPromised() {
        RoundedSums x = new RoundedSums();
        // "let a=1+2 round 0   "
        due("feed, the first call", x.feed(0x6c657420, 0x613d312b, 0x3220726f, 0x756e6420, 0x30202020), 20);
        due("program, the second", x.program(17), 1);
        for (int call = 3; call <= 512; call++) {
            due("call " + call, x.at(0, 0), 3);
        }
    }

    // ---- promise 6: about

    static void promise06_whatIsFrom0To4() {
        RoundedSums x = of(PLAIN);
        int[] want = {3, 1, 2, x.about(3), 9};
        for (int what = 0; what <= 4; what++) {
            taken(x, "about(" + what + ")", x.about(what), want[what]);
        }
        for (int what : new int[] {-1, 5, LEAST, MOST}) {
            refused(x, "about(" + what + ")", x.about(what), -1, 1);
        }
    }

    static void promise06_theLeastThatThereIs() {
        RoundedSums x = of("let a=1+1 round 0");
        int[] want = {1, 0, 1, 0, 1};
        for (int what = 0; what <= 4; what++) {
            taken(x, "about(" + what + ")", x.about(what), want[what]);
        }
    }

    static void promise06_theMostThatThereIs() {
        // a brings two NOISES, each of its squares five: P four times, ROUNDED.
        StringBuilder s = new StringBuilder("input x from 1 to 3;input y from 1 to 3;input z from 2 to 4;let a=x*y round 1");
        for (char c = 'b'; c <= 'l'; c++) {
            s.append(";let ").append(c).append("=a*a round 3");
        }
        RoundedSums x = of(s.toString());
        int[] want = {15, 3, 12, 3 + 2 + 11 * 5, 27};
        for (int what = 0; what <= 4; what++) {
            taken(x, "about(" + what + ")", x.about(what), want[what]);
        }
    }

    static void promise06_pointsAreToldUpTo999999999() {
        RoundedSums x = of("input x from -222 to 222;input y from -723 to 723;input z from -776 to 776;let a=x-x round 0");
        due("445 * 1447 * 1553, the most below", x.about(4), 999_999_995);
        RoundedSums y = of("input x from -209 to 209;input y from -743 to 743;input z from -802 to 802;let a=x-x round 0");
        due("419 * 1487 * 1605, the least above", y.about(4), 999_999_999);
        RoundedSums z = of("input x from -1000 to 1000;input y from -1000 to 1000;input z from -1000 to 1000;let a=x-x round 0");
        due("2001 * 2001 * 2001", z.about(4), 999_999_999);
        due("2001 * 2001", of("input x from -1000 to 1000;input y from -1000 to 1000;let a=x-x round 0").about(4), 4_004_001);
    }

    static void promise06_anInputOfOneNumberHasOnePointAndANoise() {
        RoundedSums x = of("input x from 5 to 5;input y from -1 to 1;let a=x-y round 0");
        due("points", x.about(4), 3);
        due("noises", x.about(3), 2);
    }

    // ---- promise 7: variable

    static void promise07_vIsAVariable() {
        RoundedSums x = of(PLAIN);
        for (int what = 0; what <= 6; what++) {
            due("trouble of 0", x.variable(0, what) == NOTHING, false);
            due("trouble of 2", x.variable(2, what) == NOTHING, false);
            refused(x, "variable(-1, " + what + ")", x.variable(-1, what), NOTHING, 1);
            refused(x, "variable(3, " + what + ")", x.variable(3, what), NOTHING, 1);
        }
        refused(x, "variable(least, 0)", x.variable(LEAST, 0), NOTHING, 1);
        refused(x, "variable(most, 0)", x.variable(MOST, 0), NOTHING, 1);
        RoundedSums full = of("input x from 0 to 0;input y from 0 to 0;input z from 0 to 0;let a=1+1 round 0;let b=1+1 round 0;"
                + "let c=1+1 round 0;let d=1+1 round 0;let e=1+1 round 0;let f=1+1 round 0;let g=1+1 round 0;let h=1+1 round 0;"
                + "let i=1+1 round 0;let j=1+1 round 0;let k=1+1 round 0;let l=1+2 round 8");
        taken(full, "the last of 15", full.variable(14, 4), 8);
        refused(full, "variable(15, 4)", full.variable(15, 4), NOTHING, 1);
    }

    static void promise07_whatIsFrom0To6() {
        RoundedSums x = of(PLAIN);
        taken(x, "variable(1, 0)", x.variable(1, 0), 0);
        taken(x, "variable(1, 6)", x.variable(1, 6), 68);
        for (int what : new int[] {-1, 7, LEAST, MOST}) {
            refused(x, "variable(1, " + what + ")", x.variable(1, what), NOTHING, 1);
        }
    }

    static void promise07_ofAnInput() {
        RoundedSums x = of("input x from -1000 to -998;let a=x+x round 0");
        long[] want = {1, -1000, -998, -2, -2, 0, 1000};
        for (int what = 0; what <= 6; what++) {
            taken(x, "variable(0, " + what + ")", x.variable(0, what), want[what]);
        }
    }

    static void promise07_ofAStepFromAndToAre0() {
        RoundedSums x = of("input x from 4 to 8;let a=x+x round 0;let b=x-x round 1;let c=x*x round 8;let d=pick x<x then x else x round 4");
        int[] grids = {0, 1, 8, 4};
        for (int v = 1; v <= 4; v++) {
            taken(x, "input", x.variable(v, 0), 0);
            taken(x, "FROM", x.variable(v, 1), 0);
            taken(x, "TO", x.variable(v, 2), 0);
            taken(x, "by what", x.variable(v, 3), v - 1);
            taken(x, "GRID", x.variable(v, 4), grids[v - 1]);
        }
    }

    private static void fine(String step, int want) {
        due("FINE of " + step, of("input x from 2 to 2;let a=" + step).variable(1, 5), want);
    }

    static void promise07_fineOfANumberIsHowOften2GoesIntoIt8AtMost() {
        fine("1+0 round 0", 0);
        fine("2+0 round 0", 1);
        fine("-2+0 round 0", 1);
        fine("3+0 round 0", 0);
        fine("1000+0 round 0", 3);
        fine("128+0 round 0", 7);
        fine("-384+0 round 0", 7);
        fine("256+0 round 0", 8);
        fine("-256+0 round 0", 8);
        fine("512+0 round 0", 8);
        fine("768-0 round 0", 8);
    }

    static void promise07_fineOf0Is8() {
        fine("0+0 round 0", 8);
        fine("-0-0 round 0", 8);
        fine("0+128 round 0", 7);
    }

    static void promise07_fineOfAnInputIs0() {
        due("x", of("input x from 2 to 2;let a=x+0 round 0").variable(0, 5), 0);
        due("x", of("input x from 0 to 0;let a=x+0 round 0").variable(0, 5), 0);
        fine("x+0 round 0", 0);
        fine("0-x round 0", 0);
    }

    static void promise07_fineOfASumIsTheLesserOne() {
        fine("4+8 round 0", 2);
        fine("8-4 round 0", 2);
        fine("4+4 round 0", 2);
    }

    static void promise07_fineOfAProductIsBothTogether8AtMost() {
        fine("16*8 round 0", 7);
        fine("16*16 round 0", 8);
        fine("16*32 round 0", 8);
        fine("512*512 round 0", 8);
        fine("0*0 round 0", 8);
        fine("0*1 round 0", 8);
        fine("x*8 round 0", 3);
        fine("x*x round 0", 0);
    }

    static void promise07_fineOfAPickIsTheLesserOneBehindThenAndElse() {
        fine("pick 1<3 then 4 else 8 round 0", 2);
        fine("pick 1<3 then 8 else 4 round 0", 2);
        fine("pick x<x then 0 else 512 round 0", 8);
        fine("pick 0<0 then x else 8 round 0", 0);
    }

    static void promise07_fineIsGridIfThatIsMore() {
        fine("8+8 round 2", 3);
        fine("8+8 round 3", 3);
        fine("8+8 round 4", 4);
        fine("x+8 round 8", 8);
        fine("512+512 round 8", 8);
        fine("16*8 round 8", 8);
    }

    private static void weight(String step, long want) {
        due("WEIGHT of " + step, of("input x from -10 to 4;input y from -4 to 12;let a=" + step).variable(2, 6), want);
    }

    static void promise07_weightOfAnInputIsTheGreaterOneWithoutSign() {
        int[][] ranges = {{-10, 4, 10}, {-4, 10, 10}, {0, 0, 0}, {-8, -2, 8}, {2, 8, 8}, {-1000, 1000, 1000}, {-5, 5, 5}};
        for (int[] r : ranges) {
            due(r[0] + " to " + r[1], of("input x from " + r[0] + " to " + r[1] + ";let a=1+1 round 0").variable(0, 6), r[2]);
        }
    }

    static void promise07_weightOfAStep() {
        weight("0+0 round 0", 1);
        weight("-3+4 round 0", 8);
        weight("4-4 round 1", 10);
        weight("-3*4 round 0", 13);
        weight("0*1000 round 0", 1);
        weight("x+y round 0", 23);
        weight("x-x round 3", 28);
        weight("x*y round 8", 376);
        weight("pick 1000<1000 then x else -3 round 0", 27);
        weight("pick x<y then 0 else 0 round 8", 256);
    }

    // ---- promise 8: operand

    static void promise08_operandsOfASumAre0And1() {
        RoundedSums x = of("input x from 0 to 2;let a=x+5 round 0;let b=-5-a round 0;let c=a*x round 0");
        taken(x, "x", x.operand(1, 0), 0);
        taken(x, "5", x.operand(1, 1), -2);
        taken(x, "-5", x.operand(2, 0), -2);
        taken(x, "a", x.operand(2, 1), 1);
        taken(x, "a", x.operand(3, 0), 1);
        taken(x, "x", x.operand(3, 1), 0);
        for (int v = 1; v <= 3; v++) {
            for (int operand : new int[] {-1, 2, 3, 4, LEAST, MOST}) {
                refused(x, "operand(" + v + ", " + operand + ")", x.operand(v, operand), -1, 1);
            }
        }
    }

    static void promise08_operandsOfAPickAre0To3() {
        RoundedSums x = of("input x from 0 to 2;let a=pick 0<x then -1 else x round 0;let b=pick a<1 then x else 1 round 0");
        int[][] want = {{-2, 0, -2, 0}, {1, -2, 0, -2}};
        for (int v = 1; v <= 2; v++) {
            for (int operand = 0; operand <= 3; operand++) {
                taken(x, "operand(" + v + ", " + operand + ")", x.operand(v, operand), want[v - 1][operand]);
            }
            for (int operand : new int[] {-1, 4, LEAST, MOST}) {
                refused(x, "operand(" + v + ", " + operand + ")", x.operand(v, operand), -1, 1);
            }
        }
    }

    static void promise08_aPickMayBeTheFirstVariable() {
        RoundedSums x = of("let p=pick 1<2 then 3 else 4 round 0");
        for (int operand = 0; operand <= 3; operand++) {
            taken(x, "operand(0, " + operand + ")", x.operand(0, operand), -2);
        }
        refused(x, "operand(0, 4)", x.operand(0, 4), -1, 1);
    }

    static void promise08_vIsAStep() {
        RoundedSums x = of(PLAIN);
        refused(x, "an INPUT", x.operand(0, 0), -1, 1);
        refused(x, "operand(-1, 0)", x.operand(-1, 0), -1, 1);
        refused(x, "operand(3, 0)", x.operand(3, 0), -1, 1);
        refused(x, "operand(least, 0)", x.operand(LEAST, 0), -1, 1);
        refused(x, "operand(most, 0)", x.operand(MOST, 0), -1, 1);
    }

    // ---- promise 9: set

    static void promise09_nIsFromFromToTo() {
        RoundedSums x = of("input x from -3 to 5;input y from 7 to 7;let a=x+y round 0");
        for (int n : new int[] {-4, 6, LEAST, MOST}) {
            refused(x, "set(0, " + n + ")", x.set(0, n), 2);
            due("THE POINT stays", x.at(0, 0), -3);
        }
        taken(x, "set(0, 5)", x.set(0, 5));
        due("x", x.at(0, 0), 5);
        taken(x, "set(0, -3)", x.set(0, -3));
        due("x", x.at(0, 0), -3);
        refused(x, "set(1, 6)", x.set(1, 6), 2);
        refused(x, "set(1, 8)", x.set(1, 8), 2);
        taken(x, "set(1, 7)", x.set(1, 7));
        due("a", x.at(2, 0), 4);
    }

    static void promise09_vIsAnInputAheadOfN() {
        RoundedSums x = of(PLAIN);
        refused(x, "a STEP", x.set(1, 0), 1);
        refused(x, "a STEP", x.set(2, 9), 1);
        refused(x, "set(-1, 9)", x.set(-1, 9), 1);
        refused(x, "set(3, 9)", x.set(3, 9), 1);
        refused(x, "set(least, 0)", x.set(LEAST, 0), 1);
        refused(x, "set(most, 0)", x.set(MOST, 0), 1);
        refused(x, "an INPUT", x.set(0, 9), 2);
    }

    static void promise09_eachInputHasItsNumber() {
        RoundedSums x = of("let k=1+1 round 0;input x from 0 to 4;let a=x+k round 0;input y from 0 to 4;input z from 0 to 4");
        taken(x, "x", x.set(1, 1));
        taken(x, "z", x.set(4, 3));
        taken(x, "y", x.set(3, 2));
        due("x", x.at(1, 0), 1);
        due("y", x.at(3, 0), 2);
        due("z", x.at(4, 0), 3);
        due("a", x.at(2, 0), 3);
    }

    // ---- promise 10: at

    static void promise10_whatIsFrom0To2() {
        RoundedSums x = of("let a=7+0 round 2");
        taken(x, "EXACT", x.at(0, 0), 7);
        taken(x, "COMPUTED", x.at(0, 1), 8);
        taken(x, "ERROR", x.at(0, 2), 1);
        for (int what : new int[] {-1, 3, LEAST, MOST}) {
            refused(x, "at(0, " + what + ")", x.at(0, what), NOTHING, 1);
        }
    }

    static void promise10_vIsAVariable() {
        RoundedSums x = of(PLAIN);
        taken(x, "the first", x.at(0, 2), 0);
        taken(x, "the last", x.at(2, 0), 0);
        for (int v : new int[] {-1, 3, LEAST, MOST}) {
            refused(x, "at(" + v + ", 0)", x.at(v, 0), NOTHING, 1);
        }
    }

    static void promise10_ofTwoAsNearTheEvenMultiple() {
        long[][] cases = {{1, 1, 0}, {1, 3, 4}, {1, 5, 4}, {1, -1, 0}, {1, -3, -4}, {1, -5, -4},
            {2, 2, 0}, {2, 6, 8}, {2, -2, 0}, {2, -6, -8}, {8, 128, 0}, {8, 384, 512}, {8, 640, 512}, {8, -128, 0}, {8, -384, -512}, {8, -640, -512}};
        for (long[] c : cases) {
            RoundedSums x = of("let a=" + c[1] + "+0 round " + c[0]);
            due(c[1] + " round " + c[0], x.at(0, 1), c[2]);
            due("EXACT", x.at(0, 0), c[1]);
            due("ERROR", x.at(0, 2), c[2] - c[1]);
        }
    }

    static void promise10_elseTheNearestMultiple() {
        long[][] cases = {{2, 1, 0}, {2, 3, 4}, {2, 5, 4}, {2, 7, 8}, {2, -1, 0}, {2, -3, -4}, {2, -5, -4}, {2, -7, -8}, {2, 4, 4}, {2, -4, -4},
            {8, 127, 0}, {8, 129, 256}, {8, 383, 256}, {8, 385, 512}, {8, -127, 0}, {8, -129, -256}, {8, -383, -256}, {8, -385, -512}, {8, 256, 256}, {8, 0, 0}};
        for (long[] c : cases) {
            due(c[1] + " round " + c[0], of("let a=" + c[1] + "+0 round " + c[0]).at(0, 1), c[2]);
        }
    }

    /** By the words: the multiple with the least distance, of two the one that is 2 to k times an even number. */
    private static long nearest(long n, int k) {
        long step = 1L << k;
        long best = 0;
        long least = Long.MAX_VALUE;
        for (long times = -2000; times <= 2000; times++) {
            long far = Math.abs(times * step - n);
            if (far < least || far == least && times % 2 == 0) {
                least = far;
                best = times * step;
            }
        }
        return best;
    }

    static void promise10_aboutEveryMiddleOfEveryGrid() {
        for (int k = 0; k <= 8; k++) {
            RoundedSums x = of("input x from -1000 to 1000;let a=x+0 round " + k);
            int half = (1 << k) / 2;
            for (int middle = -7; middle <= 7; middle++) {
                for (int beside = -1; beside <= 1; beside++) {
                    int n = Math.max(-1000, Math.min(1000, middle * half + beside));
                    x.set(0, n);
                    due(n + " round " + k, x.at(1, 1), nearest(n, k));
                }
            }
        }
    }

    static void promise10_grid0IsItself() {
        RoundedSums x = of("input x from -1 to 1;let a=x*3 round 0");
        for (int n = -1; n <= 1; n++) {
            x.set(0, n);
            due("at " + n, x.at(1, 1), 3 * n);
        }
    }

    static void promise10_computedIsReckonedByComputedOnesAndRoundedThen() {
        // a 6: 8; b = a * a: 36, 64; c = b - a: 30, 56 round 4: 64 (56 is 3.5 times 16: 4 is even).
        RoundedSums x = of("let a=6+0 round 2;let b=a*a round 0;let c=b-a round 4");
        due("EXACT of b", x.at(1, 0), 36);
        due("COMPUTED of b", x.at(1, 1), 64);
        due("EXACT of c", x.at(2, 0), 30);
        due("COMPUTED of c", x.at(2, 1), 64);
        due("ERROR of c", x.at(2, 2), 34);
    }

    static void promise10_aPickGoesThenIfLessElseOtherwise() {
        int[][] cases = {{1, 2, 10}, {2, 2, 20}, {3, 2, 20}, {-1, 0, 10}, {0, 0, 20}, {-1000, 1000, 10}};
        for (int[] c : cases) {
            due(c[0] + "<" + c[1], of("let a=pick " + c[0] + "<" + c[1] + " then 10 else 20 round 0").at(0, 0), c[2]);
            due(c[0] + "<" + c[1], of("let a=pick " + c[0] + "<" + c[1] + " then 10 else 20 round 0").at(0, 1), c[2]);
        }
    }

    static void promise10_numbersAsGreatAsAWeightMayBe() {
        RoundedSums x = of("let a=999*1000 round 0;let b=0-a round 0;let c=b-997 round 0");
        due("weight", x.variable(2, 6), 1_000_000);
        due("999,000", x.at(0, 0), 999_000);
        due("-999,997", x.at(2, 1), -999_997);
    }

    // ---- promise 11: went

    static void promise11_equalOnesGoElse() {
        RoundedSums x = of("input x from 0 to 8;let r=x+0 round 2;let p=pick r<4 then 1 else 0 round 0");
        // r: 3 becomes 4, 4, 5 becomes 4, 2 becomes 0.
        int[] want = {3, 3, 3, 1, 0, 0};
        for (int n = 0; n < want.length; n++) {
            x.set(0, n);
            taken(x, "at " + n, x.went(2), want[n]);
        }
        RoundedSums y = of("input x from 0 to 8;let r=x+0 round 2;let p=pick r<6 then 1 else 0 round 0");
        // 5 becomes 4, 6 becomes 8, 7 becomes 8.
        int[] other = {3, 3, 3, 3, 3, 3, 0, 0};
        for (int n = 0; n < other.length; n++) {
            y.set(0, n);
            taken(y, "at " + n, y.went(2), other[n]);
        }
        RoundedSums z = of("input x from 0 to 8;let r=x+0 round 2;let p=pick r<5 then 1 else 0 round 0");
        z.set(0, 5);
        taken(z, "COMPUTED alone goes THEN", z.went(2), 2);
    }

    static void promise11_aPickMayBeTheFirstVariable() {
        RoundedSums x = of("let p=pick 1<2 then 3 else 4 round 0");
        taken(x, "went(0)", x.went(0), 3);
        RoundedSums y = of("let p=pick 2<2 then 3 else 4 round 0");
        taken(y, "went(0)", y.went(0), 0);
    }

    static void promise11_anInputOrNoneIsRefusedBy1() {
        RoundedSums x = of(PLAIN);
        for (int v : new int[] {0, -1, 3, LEAST, MOST}) {
            refused(x, "went(" + v + ")", x.went(v), -1, 1);
        }
    }

    static void promise11_noPickIsRefusedBy5() {
        RoundedSums x = of("input x from 0 to 2;let a=x+x round 0;let b=x-x round 0;let c=x*x round 0;let d=pick x<x then x else x round 0");
        for (int v = 1; v <= 3; v++) {
            refused(x, "went(" + v + ")", x.went(v), -1, 5);
        }
        taken(x, "went(4)", x.went(4), 0);
    }

    // ---- promise 12: form

    static void promise12_noiseIsFromMinus1ToTheLast() {
        // x 4 + 4 e0; a: 16 + 32 e0 + 16 e1, DRIFT 2 e2; p: J of VALUES e3, J of DRIFTS e4, ROUNDED e5.
        RoundedSums x = of(PLAIN);
        due("noises", x.about(3), 6);
        taken(x, "MIDDLE", x.form(1, false, -1), 16);
        taken(x, "MIDDLE of DRIFT", x.form(1, true, -1), 0);
        taken(x, "the first", x.form(1, false, 0), 32);
        taken(x, "the last", x.form(2, true, 5), 1);
        for (int noise : new int[] {-2, 6, LEAST, MOST}) {
            refused(x, "form(1, false, " + noise + ")", x.form(1, false, noise), NOTHING, 1);
            refused(x, "form(2, true, " + noise + ")", x.form(2, true, noise), NOTHING, 1);
        }
    }

    static void promise12_vIsAVariable() {
        RoundedSums x = of(PLAIN);
        taken(x, "the first", x.form(0, true, -1), 0);
        taken(x, "the last", x.form(2, false, 0), 0);
        for (int v : new int[] {-1, 3, LEAST, MOST}) {
            refused(x, "form(" + v + ", false, -1)", x.form(v, false, -1), NOTHING, 1);
            refused(x, "form(" + v + ", true, 0)", x.form(v, true, 0), NOTHING, 1);
        }
    }

    static void promise12_withoutNoisesThereIsTheMiddleAlone() {
        RoundedSums x = of("let a=3+4 round 0");
        taken(x, "MIDDLE", x.form(0, false, -1), 7);
        taken(x, "DRIFT", x.form(0, true, -1), 0);
        refused(x, "noise 0", x.form(0, false, 0), NOTHING, 1);
    }

    static void promise12_anInputsNoiseHasANumberEvenIfThatIs0() {
        RoundedSums x = of("input x from 5 to 5;input y from -7 to -3;let a=x*y round 0");
        due("x", x.form(0, false, -1), 5);
        due("x by 0", x.form(0, false, 0), 0);
        due("y", x.form(1, false, -1), -5);
        due("y by 1", x.form(1, false, 1), 2);
        due("a by 1", x.form(2, false, 1), 10);
        due("RADIUS of x is 0: P brings none", x.about(3), 2);
    }

    static void promise12_inputsComeFirstWhereverTheyAreTold() {
        RoundedSums x = of("let a=1+0 round 1;input x from 0 to 2;let b=x+a round 0;input y from 0 to 4");
        due("x by 0", x.form(1, false, 0), 1);
        due("y by 1", x.form(3, false, 1), 2);
        due("DRIFT of a by 2", x.form(0, true, 2), 1);
        due("DRIFT of b by 2", x.form(2, true, 2), 1);
    }

    static void promise12_whatIsAlikeGoesAway() {
        RoundedSums x = of("input x from 0 to 4;let a=x+0 round 3;let b=a-a round 0;let c=a-x round 0");
        due("b", x.form(2, false, 0), 0);
        due("DRIFT of b", x.form(2, true, 1), 0);
        due("c", x.form(3, false, 0), 0);
        due("DRIFT of c", x.form(3, true, 1), 4);
    }

    static void promise12_pBringsItsNoisesInOrder() {
        // x 1 + 1 e0, y 10 + 10 e1; DRIFT of a 1 e2, of b 4 e3.
        RoundedSums x = of("input x from 0 to 2;input y from 0 to 20;let a=x+0 round 1;let b=y+0 round 3;let c=a*b round 0");
        // VALUE: 10, 10 e0, 10 e1, 1 * 10 by e4. VALUE, DRIFT: 4 e3, 1 * 4 by e5. DRIFT, VALUE: 10 e2, 1 * 10 by e6. DRIFTS: 1 * 4 by e7.
        long[] value = {10, 10, 10, 0, 0, 10, 0, 0, 0};
        long[] drift = {0, 0, 0, 10, 4, 0, 4, 10, 4};
        due("noises", x.about(3), 8);
        for (int noise = -1; noise < 8; noise++) {
            due("VALUE by " + noise, x.form(4, false, noise), value[noise + 1]);
            due("DRIFT by " + noise, x.form(4, true, noise), drift[noise + 1]);
        }
    }

    static void promise12_pBringsNoneIfARadiusIs0() {
        due("by a NUMBER", of("input x from 0 to 2;let a=x*3 round 0").about(3), 1);
        due("of NUMBERS", of("let a=3*3 round 0").about(3), 0);
        due("of one that is alike", of("input x from 0 to 2;let z=x-x round 0;let a=x*z round 0").about(3), 1);
        due("of two", of("input x from 0 to 2;let a=x*x round 0").about(3), 2);
        // VALUE of r has RADIUS 0, its DRIFT 1: P of x and DRIFT alone brings one.
        due("of DRIFT", of("input x from 0 to 2;let r=3+0 round 1;let a=x*r round 0").about(3), 3);
        due("of DRIFTS", of("let r=3+0 round 1;let a=r*r round 0").about(3), 2);
    }

    static void promise12_jCutsTheMiddleDownwards() {
        // VALUES at both sides of a test that may go both ways: least, greatest, MIDDLE, what is by the NOISE.
        int[][] cases = {{0, 4, 2, 2}, {0, 5, 2, 3}, {-5, 0, -3, 3}, {-5, 4, -1, 5}, {-4, 5, 0, 5}, {-6, -3, -5, 2}, {-6, -4, -5, 1}, {-1, 0, -1, 1}};
        for (int[] c : cases) {
            for (int turned = 0; turned <= 1; turned++) {
                String sides = " then " + c[turned] + " else " + c[1 - turned];
                RoundedSums x = of("input x from -1 to 1;let a=pick x<0" + sides + " round 0");
                due("MIDDLE" + sides, x.form(1, false, -1), c[2]);
                due("by J" + sides, x.form(1, false, 1), c[3]);
                due("noises", x.about(3), 2);
            }
        }
    }

    static void promise12_jBringsNoneIfThatIs0() {
        RoundedSums x = of("input x from -1 to 1;let a=pick x<0 then 7 else 7 round 0");
        due("MIDDLE", x.form(1, false, -1), 7);
        due("noises", x.about(3), 1);
    }

    static void promise12_jReachesWhatFormsReach() {
        // y 2 .. 6 and z -9 .. -5: -9 .. 6: -2 (cut), 8.
        RoundedSums x = of("input x from -1 to 1;input y from 2 to 6;input z from -9 to -5;let a=pick x<0 then y else z round 0");
        due("MIDDLE", x.form(3, false, -1), -2);
        due("by J", x.form(3, false, 3), 8);
        due("by y", x.form(3, false, 1), 0);
        due("by z", x.form(3, false, 2), 0);
        RoundedSums turned = of("input x from -1 to 1;input y from 2 to 6;input z from -9 to -5;let a=pick x<0 then z else y round 0");
        due("MIDDLE", turned.form(3, false, -1), -2);
        due("by J", turned.form(3, false, 3), 8);
        // One within the other: -9 .. 7 has 2 .. 6: -1, 8.
        RoundedSums within = of("input x from -1 to 1;input y from 2 to 6;input z from -9 to 7;let a=pick x<0 then z else y round 0;let b=pick x<0 then y else z round 0");
        for (int v = 3; v <= 4; v++) {
            due("MIDDLE", within.form(v, false, -1), -1);
            due("by J", within.form(v, false, v), 8);
        }
    }

    static void promise12_aPickThatGoesOneWayHasThatForm() {
        RoundedSums x = of("input x from 1 to 3;let a=x+0 round 1;let t=pick 0<x then a else 5 round 0;let e=pick x<1 then 5 else a round 0");
        for (int v = 2; v <= 3; v++) {
            due("MIDDLE", x.form(v, false, -1), 2);
            due("by x", x.form(v, false, 0), 1);
            due("DRIFT", x.form(v, true, 1), 1);
        }
        due("noises", x.about(3), 2);
    }

    static void promise12_driftOfAPickThatMayPart() {
        // r: 1, DRIFT 128 e1; x 0 .. 8. THEN 0; UP: 3 less x: -5 .. 3; J: -5 .. 3: -1, 4.
        RoundedSums up = of("input x from 0 to 8;let r=1+0 round 8;let p=pick r<2 then x else 3 round 0");
        due("may", up.may(2), 1 | 4 | 8 | 16);
        due("VALUE is x", up.form(2, false, 0), 4);
        due("MIDDLE", up.form(2, true, -1), -1);
        due("by J", up.form(2, true, 2), 4);
        // ELSE 0; DOWN: x less 3: -3 .. 5: 1, 4.
        RoundedSums down = of("input x from 0 to 8;let r=1+0 round 8;let p=pick r<1 then x else 3 round 0");
        due("may", down.may(2), 2 | 4 | 8 | 32);
        due("VALUE is 3", down.form(2, false, -1), 3);
        due("MIDDLE", down.form(2, true, -1), 1);
        due("by J", down.form(2, true, 2), 4);
    }

    static void promise12_upAndDownHaveTheDriftOfTheWayComputedGoes() {
        // s: 3, DRIFT 2 e2: UP: 3 and DRIFT less x: -7 .. 5; THEN 0. J: -1, 6. DOWN: x less 3: s has no part in it.
        RoundedSums up = of("input x from 0 to 8;let r=1+0 round 8;let s=3+0 round 2;let p=pick r<2 then x else s round 0");
        due("MIDDLE", up.form(3, true, -1), -1);
        due("by J", up.form(3, true, 3), 6);
        // ELSE: DRIFT of s: -2 .. 2; DOWN: x less 3: -3 .. 5: 1, 4.
        RoundedSums down = of("input x from 0 to 8;let r=1+0 round 8;let s=3+0 round 2;let p=pick r<1 then x else s round 0");
        due("MIDDLE", down.form(3, true, -1), 1);
        due("by J", down.form(3, true, 3), 4);
        // The same, s behind then: DOWN: 3 and DRIFT less x: -7 .. 5; ELSE 0.
        RoundedSums other = of("input x from 0 to 8;let r=1+0 round 8;let s=3+0 round 2;let p=pick r<1 then s else x round 0");
        due("MIDDLE", other.form(3, true, -1), -1);
        due("by J", other.form(3, true, 3), 6);
    }

    static void promise12_theDriftOfAWayThatExactCantGoIsNoneOfThem() {
        // s: 300, DRIFT 128 e1. DOWN: 300 and DRIFT less 0: 172 .. 428; ELSE 0; EXACT can't go THEN. J: 0 .. 428.
        RoundedSums down = of("let r=1+0 round 8;let s=300+0 round 8;let p=pick r<1 then s else 0 round 0");
        due("may", down.may(2), 2 | 4 | 8 | 32);
        due("least", down.reach(2, true, 0), 0);
        due("greatest", down.reach(2, true, 1), 428);
        // UP: the same; THEN 0; EXACT can't go ELSE.
        RoundedSums up = of("let r=1+0 round 8;let s=300+0 round 8;let p=pick r<2 then 0 else s round 0");
        due("may", up.may(2), 1 | 4 | 8 | 16);
        due("least", up.reach(2, true, 0), 0);
        due("greatest", up.reach(2, true, 1), 428);
    }

    static void promise12_theDriftsOfBothWaysAreOfThemIfBothMayGo() {
        // THEN DRIFT of a, -4 .. 4, ELSE that of b, -64 .. 64; nothing parts: x has no DRIFT.
        RoundedSums x = of("input x from -1 to 1;let a=1+0 round 3;let b=1+0 round 7;let p=pick x<0 then a else b round 0;let q=pick x<0 then b else a round 0");
        due("least", x.reach(3, true, 0), -64);
        due("greatest", x.reach(3, true, 1), 64);
        due("least", x.reach(4, true, 0), -64);
        due("greatest", x.reach(4, true, 1), 64);
    }

    static void promise12_theJOfValuesIsAheadOfThatOfDrifts() {
        // T -1 .. 1 and 128: all may be. VALUES 10, 0: 5, 5 by e2; DRIFTS 0, 0, -10, 10: 0, 10 by e3.
        RoundedSums x = of("input x from -1 to 1;let r=x+0 round 8;let p=pick r<0 then 10 else 0 round 0");
        due("VALUE by 2", x.form(2, false, 2), 5);
        due("DRIFT by 3", x.form(2, true, 3), 10);
        due("noises", x.about(3), 4);
    }

    static void promise12_roundedBringsHalfAGridIfFineIsLess() {
        for (int k = 0; k <= 8; k++) {
            RoundedSums x = of("input x from 0 to 2;let a=x+0 round " + k);
            due("noises of round " + k, x.about(3), k == 0 ? 1 : 2);
            if (k > 0) {
                due("round " + k, x.form(1, true, 1), 1L << (k - 1));
            }
        }
    }

    static void promise12_roundedBringsNoneIfFineIsEnough() {
        due("FINE 3, GRID 2", of("let a=8+0 round 2").about(3), 0);
        due("FINE 3, GRID 3", of("let a=8+0 round 3").about(3), 0);
        due("FINE 3, GRID 4", of("let a=8+0 round 4").about(3), 1);
        due("FINE 8, GRID 8", of("let a=256+0 round 8").about(3), 0);
        due("FINE 7, GRID 8", of("let a=128+0 round 8").about(3), 1);
        due("FINE of a rounded one", of("input x from 0 to 2;let a=x+0 round 3;let b=a+8 round 3").about(3), 2);
        due("FINE of a rounded one", of("input x from 0 to 2;let a=x+0 round 3;let b=a+8 round 4").about(3), 3);
        due("FINE of a product", of("input x from 0 to 2;let a=x*8 round 3;let b=x*8 round 4").about(3), 2);
    }

    // ---- promise 13: reach

    static void promise13_whatIsFrom0To2() {
        RoundedSums x = of("input x from 0 to 4;let a=3-x round 2");
        taken(x, "the least", x.reach(1, false, 0), -1);
        taken(x, "the greatest", x.reach(1, false, 1), 3);
        taken(x, "RADIUS", x.reach(1, false, 2), 2);
        taken(x, "the least DRIFT", x.reach(1, true, 0), -2);
        taken(x, "the greatest DRIFT", x.reach(1, true, 1), 2);
        taken(x, "RADIUS of DRIFT", x.reach(1, true, 2), 2);
        for (int what : new int[] {-1, 3, LEAST, MOST}) {
            refused(x, "reach(1, false, " + what + ")", x.reach(1, false, what), NOTHING, 1);
        }
    }

    static void promise13_vIsAVariable() {
        RoundedSums x = of(PLAIN);
        taken(x, "the first", x.reach(0, false, 1), 8);
        taken(x, "the last", x.reach(2, true, 2) >= 0 ? 1 : 0, 1);
        for (int v : new int[] {-1, 3, LEAST, MOST}) {
            refused(x, "reach(" + v + ", false, 0)", x.reach(v, false, 0), NOTHING, 1);
        }
    }

    static void promise13_numbersBelow0CountWithoutSign() {
        // y 2 e1, x 2 e0: 0 - x - y.
        RoundedSums x = of("input x from 0 to 4;input y from 0 to 4;let a=0-x round 0;let b=a-y round 0;let c=a+y round 0");
        due("least", x.reach(3, false, 0), -8);
        due("RADIUS", x.reach(3, false, 2), 4);
        due("RADIUS", x.reach(4, false, 2), 4);
        due("greatest", x.reach(3, false, 1), 0);
    }

    // ---- promise 14: bound

    static void promise14_theFartherEndOfDriftWithoutSign() {
        RoundedSums down = of("input x from 0 to 8;let r=1+0 round 8;let p=pick r<1 then x else 3 round 0");
        taken(down, "-3 .. 5", down.bound(2), 5);
        RoundedSums up = of("input x from 0 to 8;let r=1+0 round 8;let p=pick r<2 then x else 3 round 0");
        taken(up, "-5 .. 3", up.bound(2), 5);
        taken(up, "-128 .. 128", up.bound(1), 128);
        taken(up, "an INPUT", up.bound(0), 0);
    }

    static void promise14_vIsAVariable() {
        RoundedSums x = of(PLAIN);
        for (int v : new int[] {-1, 3, LEAST, MOST}) {
            refused(x, "bound(" + v + ")", x.bound(v), NOTHING, 1);
        }
        taken(x, "the first", x.bound(0), 0);
        taken(x, "behind it", x.bound(1), 2);
    }

    // ---- promise 15: noise

    static void promise15_noiseIsFrom0ToTheLast() {
        RoundedSums x = of(PLAIN);
        int[] bringer = {0, 1, 1, 2, 2, 2};
        int[] by = {0, 1, 3, 2, 2, 3};
        for (int noise = 0; noise < 6; noise++) {
            taken(x, "bringer of " + noise, x.noise(noise, 0), bringer[noise]);
            taken(x, "by what " + noise, x.noise(noise, 1), by[noise]);
        }
        for (int noise : new int[] {-1, 6, LEAST, MOST}) {
            refused(x, "noise(" + noise + ", 0)", x.noise(noise, 0), -1, 1);
            refused(x, "noise(" + noise + ", 1)", x.noise(noise, 1), -1, 1);
        }
    }

    static void promise15_whatIs0Or1() {
        RoundedSums x = of(PLAIN);
        for (int what : new int[] {-1, 2, LEAST, MOST}) {
            refused(x, "noise(0, " + what + ")", x.noise(0, what), -1, 1);
        }
    }

    static void promise15_withoutNoisesThereIsNone() {
        RoundedSums x = of("let a=1+1 round 0");
        refused(x, "noise(0, 0)", x.noise(0, 0), -1, 1);
        refused(x, "noise(-1, 0)", x.noise(-1, 0), -1, 1);
    }

    static void promise15_oneVariableMayBringOne() {
        RoundedSums x = of("let a=3+0 round 2");
        taken(x, "noise(0, 0)", x.noise(0, 0), 0);
        taken(x, "noise(0, 1)", x.noise(0, 1), 3);
        refused(x, "noise(1, 0)", x.noise(1, 0), -1, 1);
    }

    static void promise15_goneNoisesAreNotTold() {
        RoundedSums x = of(PLAIN);
        due("grid", x.grid(2, 0), 1);
        refused(x, "noise(5, 0)", x.noise(5, 0), -1, 1);
        refused(x, "form(2, true, 5)", x.form(2, true, 5), NOTHING, 1);
        due("another program", tell(x, "let a=1+1 round 0"), 1);
        refused(x, "noise(0, 0)", x.noise(0, 0), -1, 1);
    }

    // ---- promise 16: shared

    static void promise16_bothAreVariables() {
        RoundedSums x = of(PLAIN);
        taken(x, "shared(0, 2)", x.shared(0, 2), 0);
        taken(x, "shared(1, 1)", x.shared(1, 1), 1);
        for (int v : new int[] {-1, 3, LEAST, MOST}) {
            refused(x, "shared(" + v + ", 0)", x.shared(v, 0), -1, 1);
            refused(x, "shared(2, " + v + ")", x.shared(2, v), -1, 1);
        }
    }

    static void promise16_numbersOfBothArentZero() {
        RoundedSums x = of("input x from 0 to 4;let a=x+0 round 1;let b=x+1 round 2;let c=a+b round 0;let d=a-a round 0;let e=c-a round 0");
        taken(x, "a and b", x.shared(1, 2), 0);
        taken(x, "a and c", x.shared(1, 3), 1);
        taken(x, "b and c", x.shared(2, 3), 1);
        taken(x, "c and c", x.shared(3, 3), 2);
        taken(x, "what is alike went away", x.shared(1, 4), 0);
        taken(x, "what is alike went away", x.shared(5, 1), 0);
        taken(x, "what is left", x.shared(5, 2), 1);
        taken(x, "the other way about", x.shared(3, 1), 1);
        taken(x, "INPUTS have no DRIFT", x.shared(0, 0), 0);
    }

    static void promise16_numbersBelow0AreShared() {
        RoundedSums x = of("input x from 0 to 4;let a=x+0 round 1;let b=0-a round 0");
        taken(x, "a and -a", x.shared(1, 2), 1);
    }

    static void promise16_valuesDontCount() {
        RoundedSums x = of("input x from 0 to 4;let a=x+0 round 0;let b=x+0 round 0");
        taken(x, "VALUES share x", x.shared(1, 2), 0);
    }

    // ---- promise 17: part

    static void promise17_vIsAVariableAndStepAStep() {
        RoundedSums x = of(PLAIN);
        taken(x, "part(1, 1)", x.part(1, 1), 2);
        taken(x, "part(0, 2)", x.part(0, 2), 0);
        refused(x, "an INPUT", x.part(1, 0), NOTHING, 1);
        for (int v : new int[] {-1, 3, LEAST, MOST}) {
            refused(x, "part(" + v + ", 1)", x.part(v, 1), NOTHING, 1);
            refused(x, "part(1, " + v + ")", x.part(1, v), NOTHING, 1);
        }
    }

    static void promise17_withoutSignsTogether() {
        // a: 1 e1; b = 0 - a; c = b * x: DRIFT -2 e1 and 1 * 2 by e3 (e2 is of VALUE); ROUNDED 2 (FINE of b is 1).
        RoundedSums x = of("input x from 0 to 4;let a=x+0 round 1;let b=0-a round 0;let c=b*x round 2");
        taken(x, "of a", x.part(3, 1), 2);
        taken(x, "of b", x.part(3, 2), 0);
        taken(x, "of c", x.part(3, 3), 4);
        taken(x, "of a STEP behind it", x.part(1, 3), 0);
        taken(x, "b by a", x.part(2, 1), 1);
    }

    static void promise17_noisesOfValueDontCount() {
        RoundedSums x = of("input x from 0 to 4;let a=x*x round 0");
        taken(x, "P of VALUES", x.part(1, 1), 0);
    }

    // ---- promise 18: blame

    static void promise18_theFirstByWhichThatIsMost() {
        String text = "input x from 0 to 4;let a=x+0 round #;let b=x+1 round 2;let c=a+b round 0";
        taken(of(text.replace("#", "1")), "b is more", of(text.replace("#", "1")).blame(3), 2);
        taken(of(text.replace("#", "2")), "like ones: the first", of(text.replace("#", "2")).blame(3), 1);
        taken(of(text.replace("#", "3")), "a is more", of(text.replace("#", "3")).blame(3), 1);
        RoundedSums turned = of("input x from 0 to 4;let a=x+0 round 2;let b=x+1 round 2;let c=b-a round 0");
        taken(turned, "the first STEP, not the first OPERAND", turned.blame(3), 1);
    }

    static void promise18_minus2IfDriftHasNone() {
        RoundedSums x = of("input x from 0 to 4;let a=x+0 round 1;let b=a-a round 0;let c=x*x round 0");
        taken(x, "an INPUT", x.blame(0), -2);
        taken(x, "a", x.blame(1), 1);
        taken(x, "what is alike went away", x.blame(2), -2);
        taken(x, "VALUE alone has one", x.blame(3), -2);
    }

    static void promise18_noisesOfInputsDontCount() {
        // DRIFT of p: J of 0 and UP, 50: 25, 25. q: 25 * 4 by x, 25 * 4 by P: like ones, but x is no STEP.
        RoundedSums x = of("input x from -4 to 4;let r=1+0 round 8;let p=pick r<2 then 0 else 50 round 0;let q=p*x round 0");
        due("by x", x.form(3, true, 0), 100);
        due("of q", x.part(3, 3), 100);
        taken(x, "blame(3)", x.blame(3), 3);
    }

    static void promise18_vIsAVariable() {
        RoundedSums x = of(PLAIN);
        for (int v : new int[] {-1, 3, LEAST, MOST}) {
            refused(x, "blame(" + v + ")", x.blame(v), -1, 1);
        }
        taken(x, "the last", x.blame(2), 2);
    }

    // ---- promise 19: may

    private static final int EXACT_BOTH = 1 | 2;
    private static final int COMPUTED_BOTH = 4 | 8;

    /** x 0 .. 4; r is x, with DRIFT from -2 to 2, s with DRIFT from -1 to 1. */
    private static void may(String test, int want) {
        RoundedSums x = of("input x from 0 to 4;let r=x+0 round 2;let s=x+0 round 1;let p=pick " + test + " then 1 else 0 round 0");
        taken(x, "may of " + test, x.may(3), want);
    }

    static void promise19_exactMayGoThenIfLowIsBelow0() {
        may("x<1", EXACT_BOTH | COMPUTED_BOTH);
        may("x<0", 2 | 8);
    }

    static void promise19_exactMayGoElseIfHighIsnt() {
        may("x<4", EXACT_BOTH | COMPUTED_BOTH);
        may("x<5", 1 | 4);
    }

    static void promise19_computedMayGoThenIfLowAndLessAreBelow0() {
        // T 1 .. 5, then 2 .. 6.
        may("r<-1", 2 | COMPUTED_BOTH | 32);
        may("r<-2", 2 | 8);
    }

    static void promise19_computedMayGoElseIfHighAndMoreArent() {
        // T -6 .. -2, then -7 .. -3.
        may("r<6", 1 | COMPUTED_BOTH | 16);
        may("r<7", 1 | 4);
    }

    static void promise19_upIfANumberBelow0IsWithinReach() {
        // T -1 .. 3, then 0 .. 4.
        may("r<1", EXACT_BOTH | COMPUTED_BOTH | 16 | 32);
        may("r<0", 2 | COMPUTED_BOTH | 32);
        // - MORE is -1: T -5 .. -1, then -6 .. -2.
        may("s<5", 1 | COMPUTED_BOTH | 16);
        may("s<6", 1 | 4);
    }

    static void promise19_downIfANumberFrom0OnIsWithinReach() {
        // T -4 .. 0, then -5 .. -1.
        may("r<4", EXACT_BOTH | COMPUTED_BOTH | 16 | 32);
        may("r<5", 1 | COMPUTED_BOTH | 16);
        // - LESS less 1 is 0: T 0 .. 4, then 1 .. 5.
        may("s<0", 2 | COMPUTED_BOTH | 32);
        may("s<-1", 2 | 8);
    }

    static void promise19_withoutDriftNothingParts() {
        may("x<2", EXACT_BOTH | COMPUTED_BOTH);
        may("r<r", 2 | 8);
        may("0<0", 2 | 8);
        may("-1<0", 1 | 4);
    }

    static void promise19_driftToOneSidePartsToOneSide() {
        // q: VALUE x 0 .. 4; DRIFT: J of 0 and UP, 50 less x: 0 .. 50.
        String head = "input x from 0 to 4;let r=1+0 round 8;let q=pick r<2 then x else 50 round 0;let p=pick ";
        RoundedSums up = of(head + "q<3 then 1 else 0 round 0");
        due("the least DRIFT", up.reach(2, true, 0), 0);
        due("the greatest DRIFT", up.reach(2, true, 1), 50);
        taken(up, "q<3", up.may(3), EXACT_BOTH | COMPUTED_BOTH | 16);
        RoundedSums down = of(head + "3<q then 1 else 0 round 0");
        taken(down, "3<q", down.may(3), EXACT_BOTH | COMPUTED_BOTH | 32);
    }

    static void promise19_aPickMayBeTheFirstVariable() {
        RoundedSums x = of("let p=pick 1<2 then 3 else 4 round 0");
        taken(x, "may(0)", x.may(0), 1 | 4);
        RoundedSums y = of("let p=pick 2<2 then 3 else 4 round 0");
        taken(y, "may(0)", y.may(0), 2 | 8);
    }

    static void promise19_anInputOrNoneIsRefusedBy1() {
        RoundedSums x = of(PLAIN);
        for (int v : new int[] {0, -1, 3, LEAST, MOST}) {
            refused(x, "may(" + v + ")", x.may(v), -1, 1);
        }
    }

    static void promise19_noPickIsRefusedBy5() {
        RoundedSums x = of("input x from 0 to 2;let a=x+x round 0;let b=x-x round 0;let c=x*x round 0;let d=pick x<x then x else x round 0");
        for (int v = 1; v <= 3; v++) {
            refused(x, "may(" + v + ")", x.may(v), -1, 5);
        }
        taken(x, "may(4)", x.may(4), 2 | 8);
    }
}
