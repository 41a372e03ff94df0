/** Promises 27 to 31 at the document's edges: acts, what is told, and TROUBLE (section IV). */
public final class ActBoundariesTest extends Check {
    /** x (0) 0 .. 8, a (1) = x * x round 2, p (2) = pick a < 9 then x else 3 round 1. */
    private static final String PLAIN = "input x from 0 to 8;let a=x*x round 2;let p=pick a<9 then x else 3 round 1";
    /** WEIGHTS 999,001 and 999,999: 2 more by GRID 1 is a million. */
    private static final String HEAVY = "let big=999*1000 round 0;let b=big+997 round 0";

    public static void main(String[] args) {
        runAll(ActBoundariesTest.class);
    }

    // ---- promise 27: grid

    static void promise27_kIsFrom0To8() {
        RoundedSums x = of(PLAIN);
        int before = 2;
        for (int k = 0; k <= 8; k++) {
            taken(x, "grid(1, " + k + ")", x.grid(1, k), before);
            due("GRID", x.variable(1, 4), k);
            before = k;
        }
        for (int k : new int[] {-1, 9, LEAST, MOST}) {
            refused(x, "grid(1, " + k + ")", x.grid(1, k), -1, 2);
            due("GRID stays", x.variable(1, 4), 8);
        }
    }

    static void promise27_vIsAStepAheadOfK() {
        RoundedSums x = of(PLAIN);
        for (int v : new int[] {0, -1, 3, LEAST, MOST}) {
            refused(x, "grid(" + v + ", 0)", x.grid(v, 0), -1, 1);
            refused(x, "grid(" + v + ", 9)", x.grid(v, 9), -1, 1);
        }
        taken(x, "the last", x.grid(2, 0), 1);
    }

    static void promise27_refusedBy5IfItsWeightWouldBeAboveAMillion() {
        RoundedSums x = of(HEAVY);
        taken(x, "a million", x.grid(1, 1), 0);
        due("weight", x.variable(1, 6), 1_000_000);
        refused(x, "two more", x.grid(1, 2), -1, 5);
        due("GRID stays", x.variable(1, 4), 1);
        due("weight stays", x.variable(1, 6), 1_000_000);
        taken(x, "less", x.grid(1, 0), 1);
        due("weight", x.variable(1, 6), 999_999);
    }

    static void promise27_refusedBy5IfAWeightBehindItWouldBe() {
        // big brings c what it has more: 999,001 and 998 and 1.
        RoundedSums x = of("let big=999*1000 round 0;let c=big+998 round 0;let d=1+1 round 0");
        String before = state(x);
        refused(x, "big would not be, but c", x.grid(0, 1), -1, 5);
        same("state", state(x), before);
        taken(x, "d has no part in it", x.grid(2, 8), 0);
        RoundedSums y = of("let big=999*1000 round 0;let c=big+997 round 0");
        taken(y, "one less", y.grid(0, 1), 0);
        due("weight", y.variable(1, 6), 1_000_000);
        refused(y, "two more", y.grid(0, 2), -1, 5);
    }

    static void promise27_by2AheadOfBy5() {
        RoundedSums x = of("let big=999*1000 round 0;let c=big+998 round 0");
        refused(x, "9", x.grid(1, 9), -1, 2);
        refused(x, "-1", x.grid(1, -1), -1, 2);
        refused(x, "8", x.grid(1, 8), -1, 5);
    }

    static void promise27_refusedAllStays() {
        RoundedSums x = of("input x from 0 to 8;let big=990*1000 round 0;let a=x*x round 2;let c=big+a round 3");
        x.set(0, 5);
        String before = state(x);
        refused(x, "grid(2, 9)", x.grid(2, 9), -1, 2);
        same("state", state(x), before);
        refused(x, "grid(0, 1)", x.grid(0, 1), -1, 1);
        same("state", state(x), before);
    }

    static void promise27_theGridItHasAlreadyIsTaken() {
        RoundedSums x = of(PLAIN);
        String before = state(x);
        taken(x, "grid(1, 2)", x.grid(1, 2), 2);
        same("state", state(x), before);
    }

    static void promise27_allIsAsIfTheTextHadToldIt() {
        for (int k = 0; k <= 8; k++) {
            RoundedSums x = of(PLAIN);
            taken(x, "grid", x.grid(1, k), 2);
            same("state", state(x), state(of(PLAIN.replace("round 2", "round " + k))));
        }
    }

    static void promise27_thePointAndTheTapeStay() {
        RoundedSums x = of(PLAIN);
        x.set(0, 5);
        feed(x, "let");
        taken(x, "grid", x.grid(1, 4), 2);
        due("THE POINT", x.at(0, 0), 5);
        due("25 round 4", x.at(1, 1), 32);
        due("THE TAPE", x.size(), 20);
    }

    // ---- promise 28: range

    static void promise28_fromAndToAreWithinAThousand() {
        RoundedSums x = of("input x from 0 to 8;let a=x+x round 2");
        taken(x, "-1000 to 1000", x.range(0, -1000, 1000));
        taken(x, "1000 to 1000", x.range(0, 1000, 1000));
        taken(x, "-1000 to -1000", x.range(0, -1000, -1000));
        int[][] bad = {{-1001, -1001}, {-1001, -999}, {-1002, 1000}, {1001, 1001}, {999, 1001}, {1000, 1002}, {-1000, 1002},
            {LEAST, LEAST}, {MOST, MOST}, {LEAST, MOST}, {0, MOST}, {LEAST, 0}, {LEAST, -2}, {-1000, MOST - 1}, {MOST, LEAST}};
        for (int[] r : bad) {
            refused(x, r[0] + " to " + r[1], x.range(0, r[0], r[1]), 2);
            due("FROM stays", x.variable(0, 1), -1000);
            due("TO stays", x.variable(0, 2), -1000);
        }
    }

    static void promise28_toIsFromAtLeast() {
        RoundedSums x = of("input x from 0 to 8;let a=x+x round 2");
        taken(x, "5 to 5", x.range(0, 5, 5));
        refused(x, "5 to 3", x.range(0, 5, 3), 2);
        refused(x, "5 to 4", x.range(0, 5, 4), 2);
        refused(x, "1000 to -1000", x.range(0, 1000, -1000), 2);
        taken(x, "-5 to -5", x.range(0, -5, -5));
        refused(x, "-5 to -7", x.range(0, -5, -7), 2);
    }

    static void promise28_theDifferenceIsEven() {
        RoundedSums x = of("input x from 0 to 8;let a=x+x round 2");
        taken(x, "-3 to -1", x.range(0, -3, -1));
        taken(x, "-3 to 3", x.range(0, -3, 3));
        refused(x, "-3 to 0", x.range(0, -3, 0), 2);
        refused(x, "0 to 1", x.range(0, 0, 1), 2);
        refused(x, "-1000 to 999", x.range(0, -1000, 999), 2);
        due("FROM", x.variable(0, 1), -3);
        due("TO", x.variable(0, 2), 3);
    }

    static void promise28_vIsAnInputAheadOfNumbers() {
        RoundedSums x = of(PLAIN);
        for (int v : new int[] {1, 2, -1, 3, LEAST, MOST}) {
            refused(x, "range(" + v + ", 0, 2)", x.range(v, 0, 2), 1);
            refused(x, "range(" + v + ", 0, 1)", x.range(v, 0, 1), 1);
        }
    }

    static void promise28_refusedBy5IfAWeightWouldBeAboveAMillion() {
        // 999,001 and 1 more, and x.
        RoundedSums x = of("input x from 0 to 8;let big=999*1000 round 0;let b=big+x round 0");
        taken(x, "0 to 998", x.range(0, 0, 998));
        due("weight", x.variable(2, 6), 1_000_000);
        taken(x, "-998 to 0", x.range(0, -998, 0));
        due("weight", x.variable(2, 6), 1_000_000);
        x.set(0, -4);
        String before = state(x);
        int[][] bad = {{1, 999}, {999, 999}, {-999, 1}, {-999, -999}, {-1000, 1000}};
        for (int[] r : bad) {
            refused(x, r[0] + " to " + r[1], x.range(0, r[0], r[1]), 5);
        }
        same("state", state(x), before);
    }

    static void promise28_by2AheadOfBy5() {
        RoundedSums x = of("input x from 0 to 8;let big=999*1000 round 0;let b=big+x round 0");
        refused(x, "0 to 999", x.range(0, 0, 999), 2);
        refused(x, "1000 to 999", x.range(0, 1000, 999), 2);
        refused(x, "1001 to 1001", x.range(0, 1001, 1001), 2);
        refused(x, "999 to 999", x.range(0, 999, 999), 5);
    }

    static void promise28_refusedAllStays() {
        RoundedSums x = of(PLAIN);
        x.set(0, 5);
        String before = state(x);
        refused(x, "0 to 7", x.range(0, 0, 7), 2);
        same("state", state(x), before);
        refused(x, "a STEP", x.range(1, 0, 2), 1);
        same("state", state(x), before);
    }

    static void promise28_thePointHasFromOfItAndStaysElsewhere() {
        RoundedSums x = of("input x from 0 to 8;let a=x*3 round 0;input y from 0 to 8;input z from 0 to 8");
        x.set(0, 5);
        x.set(2, 6);
        x.set(3, 7);
        taken(x, "y -4 to 10", x.range(2, -4, 10));
        due("x", x.at(0, 0), 5);
        due("y", x.at(2, 0), -4);
        due("z", x.at(3, 0), 7);
        due("set", x.set(0, 3), true);
        taken(x, "x the same as it was", x.range(0, 0, 8));
        due("x", x.at(0, 0), 0);
        due("a", x.at(1, 0), 0);
    }

    static void promise28_theNewRangeIsThatOfSet() {
        RoundedSums x = of(PLAIN);
        taken(x, "range", x.range(0, 10, 12));
        refused(x, "9", x.set(0, 9), 2);
        refused(x, "13", x.set(0, 13), 2);
        taken(x, "12", x.set(0, 12));
        taken(x, "10", x.set(0, 10));
    }

    static void promise28_allIsAsIfTheTextHadToldIt() {
        int[][] ranges = {{0, 8}, {-6, -2}, {3, 3}, {-300, 300}};
        for (int[] r : ranges) {
            RoundedSums x = of(PLAIN);
            taken(x, "range", x.range(0, r[0], r[1]));
            same("state", state(x), state(of(PLAIN.replace("0 to 8", r[0] + " to " + r[1]))));
        }
    }

    // ---- promise 29: doubtful

    /** r (1) is x with DRIFT from -2 to 2; picks that may part UP (2), not at all (3), DOWN (4), both ways (5). */
    private static final String PICKS = "input x from 0 to 20;let r=x+0 round 2;let a=pick r<21 then 1 else 0 round 0;"
            + "let b=pick x<9 then 1 else 0 round 0;let c=pick r<0 then 1 else 0 round 0;let d=pick r<9 then 1 else 0 round 0";

    static void promise29_iIsFrom0ToTheLastThatMayPart() {
        RoundedSums x = of(PICKS);
        due("may", x.may(2), 1 | 4 | 8 | 16);
        due("may", x.may(3), 1 | 2 | 4 | 8);
        due("may", x.may(4), 2 | 4 | 8 | 32);
        due("may", x.may(5), 63);
        due("UP", x.doubtful(0), 2);
        due("DOWN", x.doubtful(1), 4);
        due("both", x.doubtful(2), 5);
        for (int i : new int[] {-1, 3, LEAST, MOST}) {
            due("doubtful(" + i + ")", throwsNoSuch(x, i), true);
        }
    }

    static void promise29_noneIfNothingMayPart() {
        RoundedSums x = of("input x from 0 to 20;let a=pick x<9 then 1 else 0 round 0");
        due("doubtful(0)", throwsNoSuch(x, 0), true);
        due("without a pick", throwsNoSuch(of("let a=1+1 round 8"), 0), true);
        due("without a PROGRAM", throwsNoSuch(new RoundedSums(), 0), true);
    }

    static void promise29_allTwelveStepsMayBe() {
        StringBuilder s = new StringBuilder("input x from 0 to 20;let r=x+0 round 2");
        for (char c = 'a'; c < 'l'; c++) {
            s.append(";let ").append(c).append("=pick r<9 then 1 else 0 round 0");
        }
        RoundedSums x = of(s.toString());
        for (int i = 0; i < 11; i++) {
            due("doubtful(" + i + ")", x.doubtful(i), i + 2);
        }
        due("doubtful(11)", throwsNoSuch(x, 11), true);
    }

    static void promise29_itGoesWithGridsAndRanges() {
        RoundedSums x = of(PICKS);
        taken(x, "range", x.range(0, 16, 20));
        due("UP", x.doubtful(0), 2);
        due("the others can't part now", throwsNoSuch(x, 1), true);
        taken(x, "grid", x.grid(1, 0), 2);
        due("nothing can", throwsNoSuch(x, 0), true);
    }

    static void promise29_itTellsNoTrouble() {
        RoundedSums x = of(PICKS);
        refused(x, "set", x.set(0, 21), 2);
        due("doubtful", x.doubtful(0), 2);
        due("trouble", x.trouble(), 2);
        due("doubtful", throwsNoSuch(x, 3), true);
        due("trouble", x.trouble(), 2);
    }

    // ---- promise 30: size

    static void promise30_bytesOfTheTape() {
        RoundedSums x = new RoundedSums();
        due("new", x.size(), 0);
        for (int i = 1; i <= 25; i++) {
            x.feed(0, 0, 0, 0, 0);
            due("size", x.size(), 20 * i);
        }
        x.feed(0, 0, 0, 0, 0);
        due("full", x.size(), 500);
        due("refused by 2", x.program(501), -1);
        due("size", x.size(), 500);
        due("refused by 4", x.program(1), -1);
        due("size", x.size(), 0);
        feed(x, PLAIN);
        due("size", x.size(), 80);
        due("taken", x.program(PLAIN.length()), 3);
        due("size", x.size(), 0);
    }

    static void promise30_itTellsNoTrouble() {
        RoundedSums x = of(PLAIN);
        refused(x, "set", x.set(0, 21), 2);
        due("size", x.size(), 0);
        due("trouble", x.trouble(), 2);
    }

    // ---- promise 31: trouble

    /** One call of each kind that may be refused, with numbers that are taken of PICKS. */
    private static final int CALLS = 24;

    private static void call(RoundedSums x, int which) {
        switch (which) {
            case 0:
                x.about(4);
                break;
            case 1:
                x.variable(5, 6);
                break;
            case 2:
                x.operand(5, 3);
                break;
            case 3:
                x.set(0, 20);
                break;
            case 4:
                x.at(5, 2);
                break;
            case 5:
                x.went(5);
                break;
            case 6:
                x.form(5, true, -1);
                break;
            case 7:
                x.reach(5, true, 2);
                break;
            case 8:
                x.bound(5);
                break;
            case 9:
                x.noise(0, 1);
                break;
            case 10:
                x.shared(5, 5);
                break;
            case 11:
                x.part(5, 5);
                break;
            case 12:
                x.blame(5);
                break;
            case 13:
                x.may(5);
                break;
            case 14:
                x.split(5, 40, 1);
                break;
            case 15:
                x.splits(5, 1_000_000);
                break;
            case 16:
                x.climb(5, 10, 65536);
                break;
            case 17:
                x.witness(5, 10, 65536, 0);
                break;
            case 18:
                x.worst(5);
                break;
            case 19:
                x.parts(5, 200, 65536);
                break;
            case 20:
                x.finer(5, 1_000_000);
                break;
            case 21:
                x.grid(5, 0);
                break;
            case 22:
                x.range(0, 0, 20);
                break;
            default:
                tell(x, PICKS);
                break;
        }
    }

    static void promise31_itIsThatOfTheLatestCallThatMayBeRefused() {
        RoundedSums x = of(PICKS);
        for (int which = 0; which < CALLS; which++) {
            refused(x, "about", x.about(5), -1, 1);
            call(x, which);
            due("call " + which, x.trouble(), 0);
        }
    }

    static void promise31_everyCallMayBeRefusedBy1WithoutAProgram() {
        RoundedSums x = new RoundedSums();
        for (int which = 0; which < CALLS - 1; which++) {
            due("a fault", x.program(0), -1);
            due("trouble", x.trouble(), 4);
            call(x, which);
            due("call " + which, x.trouble(), 1);
            due("where", x.where(), -1);
        }
    }

    static void promise31_eachNumber() {
        RoundedSums x = of("input x from -1000 to 1000;let big=999*1000 round 0;let c=big+998 round 0");
        due("taken", x.trouble(), 0);
        x.bound(3);
        due("there is none such", x.trouble(), 1);
        x.set(0, 1001);
        due("a number", x.trouble(), 2);
        x.worst(0);
        due("too many", x.trouble(), 3);
        x.program(0);
        due("a FAULT", x.trouble(), 4);
        x.grid(2, 1);
        due("not so", x.trouble(), 5);
        x.bound(0);
        due("taken", x.trouble(), 0);
    }

    static void promise31_callsThatTellNoNumberLeaveIt() {
        int[] by = {1, 2, 4, 0};
        for (int i = 0; i < by.length; i++) {
            RoundedSums x = of(PICKS);
            switch (i) {
                case 0:
                    x.bound(6);
                    break;
                case 1:
                    x.set(0, 21);
                    break;
                case 2:
                    x.program(0);
                    break;
                default:
                    x.bound(0);
                    break;
            }
            due("trouble", x.trouble(), by[i]);
            x.fault();
            x.where();
            x.size();
            x.feed(0, 0, 0, 0, 0);
            x.doubtful(0);
            due("doubtful", throwsNoSuch(x, 9), true);
            due("trouble", x.trouble(), by[i]);
            due("trouble again", x.trouble(), by[i]);
            for (int n = 0; n < 26; n++) {
                x.feed(0, 0, 0, 0, 0);
            }
            due("behind a feed that is refused", x.trouble(), by[i]);
        }
    }
}
