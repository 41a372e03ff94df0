/** Promises 20 to 26 at the document's edges: PIECES, DRAWN POINTS, climbs, all POINTS, finer GRIDS (section III). */
public final class SeekBoundariesTest extends Check {
    /** BOUND of s (4) is the difference of x: p and q share what x brings by its MIDDLE, not what P brings. */
    private static final String WIDTH = "let r=1+0 round 1;let p=x*r round 0;let q=x*r round 0;let s=p-q round 0";
    /** EXACT 1, COMPUTED 0, so that the ERROR of f * one is f without sign. */
    private static final String ONE = "let one=1+0 round 1;";

    public static void main(String[] args) {
        runAll(SeekBoundariesTest.class);
    }

    private static RoundedSums wide(int from, int to) {
        return of("input x from " + from + " to " + to + ";" + WIDTH);
    }

    // ---- promise 20: split

    static void promise20_nIsFrom0To40() {
        RoundedSums x = wide(0, 512);
        taken(x, "split(4, 0, 1)", x.split(4, 0, 1), 1);
        taken(x, "split(4, 0, 0)", x.split(4, 0, 0), 512);
        taken(x, "split(4, 1, 1)", x.split(4, 1, 1), 2);
        taken(x, "split(4, 39, 1)", x.split(4, 39, 1), 40);
        taken(x, "split(4, 40, 1)", x.split(4, 40, 1), 41);
        for (int n : new int[] {-1, 41, LEAST, MOST}) {
            refused(x, "split(4, " + n + ", 0)", x.split(4, n, 0), NOTHING, 2);
            refused(x, "split(4, " + n + ", 1)", x.split(4, n, 1), NOTHING, 2);
        }
    }

    static void promise20_whatIs0Or1AheadOfN() {
        RoundedSums x = wide(0, 8);
        for (int what : new int[] {-1, 2, LEAST, MOST}) {
            refused(x, "split(4, 0, " + what + ")", x.split(4, 0, what), NOTHING, 1);
            refused(x, "split(4, 41, " + what + ")", x.split(4, 41, what), NOTHING, 1);
        }
    }

    static void promise20_vIsAVariableAheadOfN() {
        RoundedSums x = wide(0, 8);
        taken(x, "an INPUT", x.split(0, 40, 0), 0);
        for (int v : new int[] {-1, 5, LEAST, MOST}) {
            refused(x, "split(" + v + ", 0, 0)", x.split(v, 0, 0), NOTHING, 1);
            refused(x, "split(" + v + ", 41, 0)", x.split(v, 41, 0), NOTHING, 1);
        }
    }

    static void promise20_aDifferenceAbove0ThatCanBeDividedBy4IsSplit() {
        int[] differences = {0, 2, 4, 6, 8, 10, 12, 16, 20, 24};
        // At last, and how many PIECES.
        int[] bounds = {0, 2, 2, 6, 2, 10, 6, 2, 10, 6};
        int[] pieces = {1, 1, 2, 1, 4, 1, 2, 8, 2, 4};
        for (int i = 0; i < differences.length; i++) {
            for (int from = -3; from <= 2; from++) {
                RoundedSums x = wide(from, from + differences[i]);
                taken(x, differences[i] + " from " + from, x.split(4, 40, 1), pieces[i]);
                taken(x, differences[i] + " from " + from, x.split(4, 40, 0), bounds[i]);
            }
        }
        RoundedSums x = wide(-1000, 1000);
        // 2000, 1000, 500, 250: that can't be divided by 4.
        taken(x, "2000", x.split(4, 40, 1), 8);
        taken(x, "2000", x.split(4, 40, 0), 250);
    }

    /** BOUND of s (5) is the difference of x, that of w (8) the difference of y. */
    private static RoundedSums two(String ranges) {
        return of(ranges + "let r=1+0 round 1;let p=x*r round 0;let q=x*r round 0;let s=p-q round 0;let t=y*r round 0;let u=y*r round 0;let w=t-u round 0");
    }

    static void promise20_theInputWithTheGreatestDifference() {
        RoundedSums x = two("input x from 0 to 4;input y from 0 to 8;");
        taken(x, "x isn't split", x.split(5, 1, 0), 4);
        taken(x, "y is", x.split(8, 1, 0), 4);
        RoundedSums y = two("input x from 0 to 8;input y from 0 to 4;");
        taken(y, "x is split", y.split(5, 1, 0), 4);
        taken(y, "y isn't", y.split(8, 1, 0), 4);
        taken(y, "y isn't, even if x has no part in it", y.split(8, 1, 1), 2);
    }

    static void promise20_ofLikeDifferencesTheFirstInput() {
        RoundedSums x = two("input x from 0 to 8;input y from 0 to 8;");
        taken(x, "x is split", x.split(5, 1, 0), 4);
        taken(x, "y isn't", x.split(8, 1, 0), 8);
        // Both halves of x have y as the widest one now.
        taken(x, "y", x.split(8, 2, 0), 8);
        taken(x, "y", x.split(8, 3, 0), 4);
    }

    static void promise20_aGreaterDifferenceThatCantBeDividedIsPassedOver() {
        RoundedSums x = two("input x from 0 to 4;input y from 0 to 6;");
        taken(x, "x is split", x.split(5, 1, 0), 2);
        taken(x, "y isn't", x.split(8, 1, 0), 6);
        taken(x, "then there is none such", x.split(8, 40, 1), 2);
    }

    static void promise20_theThirdInputToo() {
        RoundedSums x = of("input y from 0 to 2;let k=1+1 round 0;input z from 0 to 0;input x from 0 to 8;let r=1+0 round 1;"
                + "let p=x*r round 0;let q=x*r round 0;let s=p-q round 0");
        taken(x, "x", x.split(7, 1, 0), 4);
        taken(x, "x", x.split(7, 40, 0), 2);
        taken(x, "x", x.split(7, 40, 1), 4);
    }

    static void promise20_thePieceWithTheGreatestBound() {
        // DRIFT of e is that of r (1) by x: BOUND is the farthest that x goes from 0. 0 .. 16: 8 .. 16, 12 .. 16, 14 .. 16: that ends it.
        RoundedSums x = of("input x from 0 to 16;let r=x+0 round 1;let e=x*r round 0");
        int[] pieces = {1, 2, 3, 4, 4};
        for (int n = 0; n < pieces.length; n++) {
            taken(x, n + " times", x.split(2, n, 1), pieces[n]);
            taken(x, n + " times", x.split(2, n, 0), 16);
        }
    }

    static void promise20_ofLikeBoundsTheFirstMade() {
        // BOUND of r is 1 in all: 0 .. 4, 4 .. 8 are both split ahead of what 0 .. 4 was split into; then 0 .. 2 ends it.
        RoundedSums x = of("input x from 0 to 8;let r=x+0 round 1");
        int[] pieces = {1, 2, 3, 4, 4};
        for (int n = 0; n < pieces.length; n++) {
            taken(x, n + " times", x.split(1, n, 1), pieces[n]);
        }
    }

    static void promise20_piecesOfBound0AreSplitToo() {
        // BOUND of x is 0 in all: as with like ones of any other.
        RoundedSums x = of("input x from 0 to 8;let r=x+0 round 1");
        int[] pieces = {1, 2, 3, 4, 4};
        for (int n = 0; n < pieces.length; n++) {
            taken(x, n + " times", x.split(0, n, 1), pieces[n]);
            taken(x, n + " times", x.split(0, n, 0), 0);
        }
    }

    static void promise20_fromFromToTheMiddleIsMadeFirst() {
        // UP is 21, DOWN -21; J of 0 and DOWN is cut to -22 .. 0. -7 .. 1 and 1 .. 9 have both, 21; of -7 .. -3 T is from 0 on: DOWN alone.
        RoundedSums x = of("input x from -7 to 9;let a=x*x round 3;let b=pick a<1 then -7 else 14 round 0");
        taken(x, "whole", x.split(2, 0, 0), 21);
        taken(x, "once", x.split(2, 1, 0), 21);
        taken(x, "-7 .. 1 is split ahead of 1 .. 9", x.split(2, 2, 0), 22);
        taken(x, "-7 .. -3 is split", x.split(2, 3, 0), 21);
    }

    static void promise20_itEndsWhenThatPieceHasNoneSuch() {
        // The worst one, 6 .. 8, can't be split, though 0 .. 4 could be.
        RoundedSums x = of("input x from 0 to 8;let r=x+0 round 1;let e=x*r round 0");
        taken(x, "2 times", x.split(2, 2, 1), 3);
        taken(x, "3 times", x.split(2, 3, 1), 3);
        taken(x, "40 times", x.split(2, 40, 1), 3);
        RoundedSums none = of("let r=3+0 round 1");
        taken(none, "without INPUT", none.split(0, 40, 1), 1);
        taken(none, "without INPUT", none.split(0, 40, 0), 1);
    }

    static void promise20_bothHalvesHaveTheMiddle() {
        RoundedSums x = of("input x from 0 to 8;let s=x+0 round 1;let d=pick s<4 then 0 else 100 round 0");
        // T: x - 4; may part, if one of -1, 0 is in it: 0 .. 4: -4 .. 0: it is; 4 .. 8: 0 .. 4: it is. 0 .. 2 isn't, 2 .. 4 is.
        taken(x, "two", x.split(2, 1, 0), 100);
        taken(x, "both are split, then 2 .. 4 ends it", x.split(2, 40, 1), 4);
        taken(x, "both are split, then 2 .. 4 ends it", x.split(2, 40, 0), 100);
    }

    static void promise20_nothingIsChanged() {
        RoundedSums x = wide(-100, 100);
        x.set(0, 50);
        String before = state(x);
        taken(x, "split", x.split(4, 40, 1), 4);
        same("state", state(x), before);
        taken(x, "the same again", x.split(4, 40, 1), 4);
    }

    // ---- promise 21: splits

    static void promise21_limitIsFrom0ToAMillion() {
        RoundedSums x = wide(0, 8);
        taken(x, "0", x.splits(4, 0), -2);
        taken(x, "1000000", x.splits(4, 1_000_000), 0);
        for (int limit : new int[] {-1, 1_000_001, LEAST, MOST}) {
            refused(x, "splits(4, " + limit + ")", x.splits(4, limit), -1, 2);
        }
    }

    static void promise21_vIsAVariableAheadOfLimit() {
        RoundedSums x = wide(0, 8);
        taken(x, "an INPUT", x.splits(0, 0), 0);
        for (int v : new int[] {-1, 5, LEAST, MOST}) {
            refused(x, "splits(" + v + ", 0)", x.splits(v, 0), -1, 1);
            refused(x, "splits(" + v + ", -1)", x.splits(v, -1), -1, 1);
        }
    }

    static void promise21_theLimitItselfIsEnough() {
        RoundedSums x = wide(0, 32);
        taken(x, "32", x.splits(4, 32), 0);
        taken(x, "31", x.splits(4, 31), 1);
        taken(x, "16", x.splits(4, 16), 1);
        taken(x, "15", x.splits(4, 15), 3);
        taken(x, "2", x.splits(4, 2), 15);
        taken(x, "1", x.splits(4, 1), -2);
    }

    /** BOUND is twice the difference below an edge, once above it. */
    private static RoundedSums edged(int edge) {
        return of("input x from 0 to 512;" + WIDTH + ";let u=s*2 round 0;let d=pick x<" + edge + " then u else s round 0");
    }

    static void promise21_fortySplitsAreCounted() {
        // For 16: 18 PIECES of 8 below 144, 23 of 16 above it: 41, by 40 splits.
        RoundedSums x = edged(144);
        taken(x, "forty", x.splits(6, 16), 40);
        taken(x, "by forty", x.split(6, 40, 0), 16);
        taken(x, "by less", x.split(6, 39, 0), 32);
    }

    static void promise21_fortyOneAreTooMany() {
        // 20 PIECES of 8 below 160, 22 of 16 above it: 42.
        RoundedSums x = edged(160);
        taken(x, "forty-one", x.splits(6, 16), -2);
        taken(x, "by forty", x.split(6, 40, 0), 32);
    }

    static void promise21_minus2IfItEndsAhead() {
        RoundedSums x = of("input x from 0 to 8;let r=x+0 round 1;let e=x*r round 0");
        taken(x, "the worst PIECE can't be split", x.splits(2, 7), -2);
        taken(x, "it is so as it is", x.splits(2, 8), 0);
        RoundedSums none = of("let r=3+0 round 1");
        taken(none, "without INPUT", none.splits(0, 0), -2);
        taken(none, "without INPUT", none.splits(0, 1), 0);
    }

    static void promise21_nothingIsChanged() {
        RoundedSums x = wide(-100, 100);
        x.set(0, 50);
        String before = state(x);
        taken(x, "splits", x.splits(4, 50), 3);
        same("state", state(x), before);
    }

    // ---- DRAWS

    private static int next(int seed) {
        return (int) ((75L * seed + 74) % 65537);
    }

    /** The SEED of which the first DRAW is of this number. */
    private static int seedFor(int drawn) {
        for (int seed = 0; seed <= 65536; seed++) {
            if (next(seed) == drawn) {
                return seed;
            }
        }
        return -1;
    }

    static void promise23_aDrawIsOfSeedAsItBecomes() {
        RoundedSums x = of("input x from -1000 to 1000;let a=x+0 round 0");
        // 74; 28652 mod 2001 is 638; 65536 mod 2001 is 1504; 0.
        taken(x, "SEED 0", x.witness(0, 1, 0, 0), -1000 + 74);
        taken(x, "SEED 5624", x.witness(0, 1, 5624, 0), -1000 + 638);
        taken(x, "SEED 65536", x.witness(0, 1, 65536, 0), -1000 + 1504);
        taken(x, "SEED that becomes 0", x.witness(0, 1, seedFor(0), 0), -1000);
        taken(x, "SEED that becomes 2000", x.witness(0, 1, seedFor(2000), 0), 1000);
        taken(x, "SEED that becomes 2001", x.witness(0, 1, seedFor(2001), 0), -1000);
    }

    static void promise23_anInputOfOneNumberIsDrawnToo() {
        // SEED 0: 74, 5624, 28652.
        RoundedSums x = of("input x from 5 to 5;input y from 0 to 1000;let a=x+0 round 0;input z from -1000 to 1000");
        taken(x, "x", x.witness(2, 1, 0, 0), 5);
        taken(x, "y", x.witness(2, 1, 0, 1), 5624 % 1001);
        taken(x, "z", x.witness(2, 1, 0, 3), -1000 + 28652 % 2001);
    }

    static void promise23_noMarkIsLeft() {
        RoundedSums x = of("input x from 0 to 100;let a=x*x round 3;let p=pick a<50 then x else 1 round 0");
        x.set(0, 7);
        String before = state(x);
        long climbed = x.climb(2, 10, 17);
        long witness = x.witness(2, 10, 17, 0);
        int parted = x.parts(2, 200, 17);
        due("climb again", x.climb(2, 10, 17), climbed);
        due("witness again", x.witness(2, 10, 17, 0), witness);
        due("parts again", x.parts(2, 200, 17), parted);
        same("state", state(x), before);
    }

    // ---- promise 22: climb

    static void promise22_nIsFrom1To10() {
        RoundedSums x = of("input x from 0 to 100;let a=x+0 round 8");
        taken(x, "1", x.climb(1, 1, 0), 100);
        taken(x, "10", x.climb(1, 10, 0), 100);
        for (int n : new int[] {0, 11, -1, LEAST, MOST}) {
            refused(x, "climb(1, " + n + ", 0)", x.climb(1, n, 0), NOTHING, 2);
        }
    }

    static void promise22_seedIsFrom0To65536() {
        RoundedSums x = of("input x from 0 to 100;let a=x+0 round 8");
        taken(x, "0", x.climb(1, 1, 0), 100);
        taken(x, "65536", x.climb(1, 1, 65536), 100);
        for (int seed : new int[] {-1, 65537, LEAST, MOST}) {
            refused(x, "climb(1, 1, " + seed + ")", x.climb(1, 1, seed), NOTHING, 2);
        }
    }

    static void promise22_vIsAVariableAheadOfNumbers() {
        RoundedSums x = of("input x from 0 to 100;let a=x+0 round 8");
        taken(x, "an INPUT", x.climb(0, 1, 0), 0);
        for (int v : new int[] {-1, 2, LEAST, MOST}) {
            refused(x, "climb(" + v + ", 1, 0)", x.climb(v, 1, 0), NOTHING, 1);
            refused(x, "climb(" + v + ", 0, -1)", x.climb(v, 0, -1), NOTHING, 1);
        }
    }

    /** The ERROR of e (6) is a number at c, another one at d behind it, 0 elsewhere. */
    private static RoundedSums spiked(int from, int to, int c, int atC, int d, int atD) {
        return of("input x from " + from + " to " + to + ";" + ONE
                + "let g=pick x<" + c + " then 0 else " + atC + " round 0;let h=pick " + c + "<x then 0 else g round 0;"
                + "let i=pick x<" + d + " then h else " + atD + " round 0;let j=pick " + d + "<x then 0 else i round 0;let e=j*one round 0");
    }

    private static final int SPIKED = 6;

    /** From 0 of -1000 .. 1000. */
    private static final int AT_0 = 1000;

    private static void climbs(String what, RoundedSums x, int drawn, int error, int where) {
        int seed = seedFor(drawn);
        taken(x, what, x.climb(SPIKED, 1, seed), error);
        taken(x, what + ": where", x.witness(SPIKED, 1, seed, 0), where);
    }

    static void promise22_by256To1AndNoOther() {
        for (int far = 1; far <= 512; far++) {
            boolean power = far <= 256 && (far & far - 1) == 0;
            climbs(far + " more", spiked(-1000, 1000, far, 1, 999, 0), AT_0, power ? 1 : 0, power ? far : 0);
            climbs(far + " less", spiked(-1000, 1000, -far, 1, 999, 0), AT_0, power ? 1 : 0, power ? -far : 0);
        }
    }

    static void promise22_thatMuchMoreElseThatMuchLess() {
        climbs("256 more ahead of 256 less", spiked(-1000, 1000, -256, 2, 256, 1), AT_0, 1, 256);
        climbs("256 less", spiked(-1000, 1000, -256, 2, 255, 1), AT_0, 2, -256);
    }

    static void promise22_muchAheadOfLittle() {
        climbs("256 less ahead of 128 more", spiked(-1000, 1000, -256, 1, 128, 2), AT_0, 1, -256);
        climbs("256 more ahead of 64 less", spiked(-1000, 1000, -64, 2, 256, 1), AT_0, 1, 256);
        climbs("8 less ahead of 4 more", spiked(-1000, 1000, -8, 1, 4, 2), AT_0, 1, -8);
        climbs("8 more ahead of 1 less", spiked(-1000, 1000, -1, 2, 8, 1), AT_0, 1, 8);
    }

    static void promise22_onlyIfTheErrorBecomesGreater() {
        // At 0 it is 3 already.
        climbs("3 isn't greater", spiked(-1000, 1000, 0, 3, 64, 3), AT_0, 3, 0);
        climbs("4 is", spiked(-1000, 1000, 0, 3, 64, 4), AT_0, 4, 64);
        climbs("2 isn't", spiked(-1000, 1000, 0, 3, 64, 2), AT_0, 3, 0);
    }

    static void promise22_theErrorCountsWithoutSign() {
        // COMPUTED is 0: ERROR 3 at 0, -4 at 64, the other way about.
        climbs("-3 to 4", spiked(-1000, 1000, 0, 3, 64, -4), AT_0, 4, 64);
        climbs("3 to -4", spiked(-1000, 1000, 0, -3, 64, 4), AT_0, 4, 64);
        climbs("-3 isn't greater than 3", spiked(-1000, 1000, 0, 3, 64, -3), AT_0, 3, 0);
    }

    static void promise22_soOftenAsThereIsOne() {
        climbs("64, then 8 back", spiked(-1000, 1000, 56, 2, 64, 1), AT_0, 2, 56);
        climbs("64, then no 24 back", spiked(-1000, 1000, 40, 2, 64, 1), AT_0, 1, 64);
    }

    static void promise22_behindEachMoveMuchIsAskedFirstAgain() {
        // 8, then 264 by 256, from which no way leads on; 12 by 4 would be more.
        RoundedSums x = of("input x from -1000 to 1000;" + ONE
                + "let a=pick x<8 then 0 else 1 round 0;let b=pick 8<x then 0 else a round 0;"
                + "let c=pick x<12 then b else 3 round 0;let d=pick 12<x then 0 else c round 0;"
                + "let f=pick x<264 then d else 2 round 0;let g=pick 264<x then 0 else f round 0;let e=g*one round 0");
        int seed = seedFor(AT_0);
        taken(x, "climb", x.climb(8, 1, seed), 2);
        taken(x, "witness", x.witness(8, 1, seed, 0), 264);
    }

    static void promise22_behindEachMoveTheFirstInputIsAskedFirstAgain() {
        // From 504, 504: y 512 (1), then x 505 (2), from which no way leads on; y 516 (3) would be more.
        RoundedSums x = of("input x from -1000 to 1000;input y from -1000 to 1000;" + ONE
                + "let a=pick y<512 then 0 else 1 round 0;let b=pick 512<y then 0 else a round 0;"
                + "let c=pick y<516 then b else 3 round 0;let h=pick 516<y then 0 else c round 0;"
                + "let k=b+b round 0;let i=pick x<505 then h else k round 0;let j=pick 505<x then 0 else i round 0;let e=j*one round 0");
        int seed = 65536;
        taken(x, "climb", x.climb(10, 1, seed), 2);
        taken(x, "x", x.witness(10, 1, seed, 0), 505);
        taken(x, "y", x.witness(10, 1, seed, 1), 512);
    }

    static void promise22_withinFromAndTo() {
        climbs("TO itself", spiked(-1000, 256, 256, 1, 999, 0), AT_0, 1, 256);
        climbs("beyond TO", spiked(-1000, 254, 256, 1, 999, 0), AT_0, 0, 0);
        climbs("FROM itself", spiked(-256, 1000, -256, 1, 999, 0), 256, 1, -256);
        climbs("beyond FROM", spiked(-254, 1000, -256, 1, 999, 0), 254, 0, 0);
        RoundedSums x = of("input x from 0 to 328;let p=pick 328<x then 1000 else 0 round 0;" + ONE + "let e=p*one round 0");
        taken(x, "from 72 to 328", x.climb(3, 1, seedFor(72)), 0);
        taken(x, "from 73 nothing is beyond 328", x.climb(3, 1, seedFor(73)), 0);
        RoundedSums y = of("input x from 0 to 328;let p=pick x<0 then 1000 else 0 round 0;" + ONE + "let e=p*one round 0");
        taken(y, "from 1 nothing is below 0", y.climb(3, 1, seedFor(1)), 0);
        taken(y, "from 0", y.climb(3, 1, seedFor(0)), 0);
    }

    static void promise22_ofEachInputByNumbers() {
        // f is 1 at x 505, y 504, but 2 at x 504, y 760: x is asked first, and from x 505 no y is better.
        RoundedSums x = of("input x from -1000 to 1000;input y from -1000 to 1000;" + ONE
                + "let a=pick x<505 then 0 else 1 round 0;let b=pick 505<x then 0 else a round 0;"
                + "let c=pick y<505 then b else 0 round 0;let g=pick y<504 then 0 else c round 0;"
                + "let d=pick y<760 then g else 2 round 0;let h=pick 760<y then 0 else d round 0;"
                + "let i=pick 504<x then g else h round 0;let e=i*one round 0");
        // It stays 65536: both are DRAWN as 504.
        int seed = 65536;
        due("without a move", x.witness(0, 1, seed, 0), 504);
        due("without a move", x.witness(0, 1, seed, 1), 504);
        taken(x, "x is asked first", x.climb(10, 1, seed), 1);
        taken(x, "x", x.witness(10, 1, seed, 0), 505);
        taken(x, "y", x.witness(10, 1, seed, 1), 504);
    }

    /** The ERROR of e (7) is x + y where y is x or 1 more, 0 elsewhere: one goes along by ones, y and x in turn. */
    private static RoundedSums ridge(int most) {
        return of("input x from 0 to 100;input y from 5 to " + most + ";" + ONE + "let d=y-x round 0;let s=x+y round 0;"
                + "let p=pick d<0 then 0 else s round 0;let q=pick 1<d then 0 else p round 0;let e=q*one round 0");
    }

    static void promise22_fortyTimesAtMost() {
        // SEED 0: 74, and 5624 mod 101 is 69: x 74, y 74: 148, and 1 more each time; TO would let one go on to 201.
        RoundedSums x = ridge(105);
        taken(x, "forty times", x.climb(7, 1, 0), 188);
        taken(x, "x", x.witness(7, 1, 0, 0), 94);
        taken(x, "y", x.witness(7, 1, 0, 1), 94);
    }

    static void promise22_fortyTimesFromEachPoint() {
        // A SEED of which the first two POINTS are on the ridge, the second one farther along, with room for forty moves.
        int from = -1;
        int start = 0;
        for (int s = 0; s <= 65536 && from < 0; s++) {
            int a = next(s);
            int b = next(a);
            int c = next(b);
            int d = next(c);
            int firstAside = 5 + b % 101 - a % 101;
            int secondAside = 5 + d % 101 - c % 101;
            boolean onRidge = firstAside >= 0 && firstAside <= 1 && secondAside >= 0 && secondAside <= 1;
            if (onRidge && c % 101 > a % 101 && c % 101 <= 79) {
                from = s;
                start = c % 101 + 5 + d % 101;
            }
        }
        due("there is such a SEED", from >= 0, true);
        RoundedSums x = ridge(105);
        taken(x, "from the second forty times, too", x.climb(7, 2, from), start + 40);
    }

    static void promise22_theTenthPointCounts() {
        int[] drawn = new int[10];
        int from = -1;
        // Ten POINTS of which the last can't be reached from another one by one move.
        for (int s = 0; s <= 65536 && from < 0; s++) {
            int seed = s;
            for (int i = 0; i < 10; i++) {
                seed = next(seed);
                drawn[i] = seed % 2001 - 1000;
            }
            from = isApart(drawn) ? s : -1;
        }
        due("there is such a SEED", from >= 0, true);
        RoundedSums x = spiked(-1000, 1000, drawn[9], 7, 1000, 0);
        taken(x, "ten", x.climb(SPIKED, 10, from), 7);
        taken(x, "nine", x.climb(SPIKED, 9, from), 0);
        taken(x, "where", x.witness(SPIKED, 10, from, 0), drawn[9]);
        taken(x, "where, of nine", x.witness(SPIKED, 9, from, 0), drawn[0]);
    }

    private static boolean isApart(int[] drawn) {
        int last = drawn[drawn.length - 1];
        if (last >= 1000) {
            return false;
        }
        for (int i = 0; i < drawn.length - 1; i++) {
            int far = Math.abs(drawn[i] - last);
            if (far == 0 || (far & far - 1) == 0) {
                return false;
            }
        }
        return true;
    }

    static void promise22_withoutInputThereIsOnePoint() {
        RoundedSums x = of("let a=7+0 round 2");
        taken(x, "climb", x.climb(0, 10, 0), 1);
    }

    // ---- promise 23: witness

    static void promise23_refusalsInTheirOrder() {
        RoundedSums x = of("let k=1+1 round 0;input x from 0 to 100;let a=x+0 round 8");
        taken(x, "an INPUT", x.witness(2, 1, 0, 1), 100);
        refused(x, "1 (VARIABLE) ahead of 2 and 1", x.witness(3, 0, -1, 0), NOTHING, 1);
        refused(x, "1 (VARIABLE)", x.witness(3, 1, 0, 1), NOTHING, 1);
        refused(x, "1 (VARIABLE)", x.witness(-1, 1, 0, 1), NOTHING, 1);
        refused(x, "2 ahead of 1 (INPUT)", x.witness(2, 0, 0, 0), NOTHING, 2);
        refused(x, "2 ahead of 1 (INPUT)", x.witness(2, 11, 0, 3), NOTHING, 2);
        refused(x, "2 ahead of 1 (INPUT)", x.witness(2, 1, -1, -1), NOTHING, 2);
        refused(x, "2 ahead of 1 (INPUT)", x.witness(2, 1, 65537, -1), NOTHING, 2);
        refused(x, "1 (INPUT): a STEP", x.witness(2, 1, 0, 0), NOTHING, 1);
        refused(x, "1 (INPUT): a STEP", x.witness(2, 1, 0, 2), NOTHING, 1);
        refused(x, "1 (INPUT): none", x.witness(2, 1, 0, 3), NOTHING, 1);
        refused(x, "1 (INPUT): none", x.witness(2, 1, 0, -1), NOTHING, 1);
        refused(x, "1 (INPUT): none", x.witness(2, 1, 0, LEAST), NOTHING, 1);
        refused(x, "1 (INPUT): none", x.witness(2, 1, 0, MOST), NOTHING, 1);
    }

    static void promise23_nIsFrom1To10AndSeedFrom0To65536() {
        RoundedSums x = of("input x from 0 to 100;let a=x+0 round 8");
        taken(x, "10, 65536", x.witness(1, 10, 65536, 0), 100);
        taken(x, "1, 0", x.witness(1, 1, 0, 0), 100);
        for (int n : new int[] {0, 11, LEAST, MOST}) {
            refused(x, "n " + n, x.witness(1, n, 0, 0), NOTHING, 2);
        }
        for (int seed : new int[] {-1, 65537, LEAST, MOST}) {
            refused(x, "seed " + seed, x.witness(1, 1, seed, 0), NOTHING, 2);
        }
    }

    static void promise23_withoutInputThereIsNoneSuch() {
        RoundedSums x = of("let a=7+0 round 2");
        refused(x, "witness", x.witness(0, 1, 0, 0), NOTHING, 1);
    }

    static void promise23_theFirstPointOfThoseAtWhichThatIsSoGreat() {
        // Every POINT has ERROR 1: the first DRAWN one; 74, 5624 mod 101 ..
        RoundedSums x = of("input x from 0 to 100;let a=7+0 round 2");
        taken(x, "ten like ones", x.witness(1, 10, 0, 0), 74);
        taken(x, "from the second on", x.witness(1, 9, next(0), 0), 5624 % 101);
    }

    // ---- promise 24: worst

    static void promise24_upTo2000Points() {
        RoundedSums x = of("input x from -999 to 999;let a=x+0 round 8");
        due("points", x.about(4), 1999);
        taken(x, "1999 POINTS", x.worst(1), 128);
        RoundedSums y = of("input x from -1000 to 1000;let a=x+0 round 8");
        due("points", y.about(4), 2001);
        refused(y, "2001 POINTS", y.worst(1), NOTHING, 3);
        refused(y, "of an INPUT, too", y.worst(0), NOTHING, 3);
        RoundedSums z = of("input x from -1 to 1;input y from -11 to 11;input z from -14 to 14;let a=x*y round 0;let b=a*z round 4");
        due("points", z.about(4), 2001);
        refused(z, "3 * 23 * 29 POINTS", z.worst(4), NOTHING, 3);
        due("range", z.range(2, -13, 13), true);
        taken(z, "3 * 23 * 27 POINTS", z.worst(4), 8);
        RoundedSums most = of("input x from -1000 to 1000;input y from -1000 to 1000;input z from -1000 to 1000;let a=1+0 round 8");
        refused(most, "2001 * 2001 * 2001 POINTS", most.worst(3), NOTHING, 3);
    }

    static void promise24_vIsAVariableAheadOfPoints() {
        RoundedSums x = of("input x from -1000 to 1000;let a=x+0 round 8");
        for (int v : new int[] {-1, 2, LEAST, MOST}) {
            refused(x, "worst(" + v + ")", x.worst(v), NOTHING, 1);
        }
    }

    static void promise24_allPointsFromTheFirstToTheLast() {
        for (int n = -3; n <= 3; n++) {
            taken(spiked(-3, 3, n, 5, 1000, 0), "at " + n + " alone", spiked(-3, 3, n, 5, 1000, 0).worst(SPIKED), 5);
        }
        taken(spiked(-3, 3, 4, 5, 1000, 0), "beyond TO", spiked(-3, 3, 4, 5, 1000, 0).worst(SPIKED), 0);
        taken(spiked(-3, 3, -4, 5, 1000, 0), "beyond FROM", spiked(-3, 3, -4, 5, 1000, 0).worst(SPIKED), 0);
    }

    static void promise24_everyCornerOfAllInputs() {
        String[] ends = {"2-x", "x-0"};
        for (int corner = 0; corner < 8; corner++) {
            // d is 2 of each INPUT at its end: 8 at the corner alone; ERROR of e is what d is more than 7.
            String text = "input x from 0 to 2;input y from 0 to 2;input z from 0 to 2;" + ONE
                    + "let a=" + ends[corner & 1] + " round 0;let b=" + ends[corner >> 1 & 1].replace('x', 'y') + " round 0;let c=" + ends[corner >> 2].replace('x', 'z') + " round 0;"
                    + "let d=a*b round 0;let f=d*c round 0;let g=pick 7<f then 9 else 0 round 0;let e=g*one round 0";
            RoundedSums x = of(text);
            due("e is the last", x.about(0), 11);
            taken(x, "corner " + corner, x.worst(10), 9);
        }
    }

    static void promise24_errorsBelow0CountWithoutSign() {
        taken(of("let a=5+0 round 2"), "ERROR -1", of("let a=5+0 round 2").worst(0), 1);
        taken(of("let a=7+0 round 2"), "ERROR 1", of("let a=7+0 round 2").worst(0), 1);
    }

    static void promise24_nothingIsChanged() {
        RoundedSums x = of("input x from 0 to 100;let a=x*x round 3");
        x.set(0, 7);
        String before = state(x);
        taken(x, "worst", x.worst(1), 4);
        same("state", state(x), before);
    }

    // ---- promise 25: parts

    /** EXACT and COMPUTED part at p (5), and at q (6) the other way about, where x is c, and nowhere else. */
    private static RoundedSums parting(int c) {
        return of("input x from -1000 to 1000;" + ONE + "let g=pick x<" + c + " then 0 else 2 round 0;let h=pick " + c + "<x then 0 else g round 0;"
                + "let w=h*one round 0;let p=pick w<1 then 1 else 0 round 0;let q=pick 0<w then 1 else 0 round 0");
    }

    static void promise25_theFirstOfUpTo200DrawnPoints() {
        int from = -1;
        int last = 0;
        for (int s = 0; s <= 65536 && from < 0; s++) {
            int[] drawn = new int[200];
            int seed = s;
            for (int i = 0; i < 200; i++) {
                seed = next(seed);
                drawn[i] = seed % 2001 - 1000;
            }
            last = drawn[199];
            from = s;
            for (int i = 0; i < 199; i++) {
                from = drawn[i] == last || last == 1000 ? -1 : from;
            }
        }
        due("there is such a SEED", from >= 0, true);
        RoundedSums x = parting(last);
        taken(x, "the last of 200", x.parts(5, 200, from), 199);
        taken(x, "not of 199", x.parts(5, 199, from), -2);
        taken(x, "the other way about", x.parts(6, 200, from), 199);
    }

    static void promise25_theFirstIs0() {
        RoundedSums x = parting(74 - 1000);
        taken(x, "of one", x.parts(5, 1, 0), 0);
        taken(x, "of 200", x.parts(5, 200, 0), 0);
        RoundedSums y = parting(5624 % 2001 - 1000);
        taken(y, "the second of one", y.parts(5, 1, 0), -2);
        taken(y, "the second of two", y.parts(5, 2, 0), 1);
    }

    static void promise25_nIsFrom1To200() {
        RoundedSums x = parting(0);
        for (int n : new int[] {0, 201, -1, LEAST, MOST}) {
            refused(x, "parts(5, " + n + ", 0)", x.parts(5, n, 0), -1, 2);
        }
    }

    static void promise25_seedIsFrom0To65536() {
        RoundedSums x = parting(-1000 + 1504);
        taken(x, "65536", x.parts(5, 1, 65536), 0);
        for (int seed : new int[] {-1, 65537, LEAST, MOST}) {
            refused(x, "parts(5, 1, " + seed + ")", x.parts(5, 1, seed), -1, 2);
        }
    }

    static void promise25_anInputOrNoneIsRefusedBy1Ahead() {
        RoundedSums x = parting(0);
        for (int v : new int[] {0, -1, 7, LEAST, MOST}) {
            refused(x, "parts(" + v + ", 1, 0)", x.parts(v, 1, 0), -1, 1);
            refused(x, "parts(" + v + ", 0, -1)", x.parts(v, 0, -1), -1, 1);
        }
    }

    static void promise25_noPickIsRefusedBy5AheadOf2() {
        RoundedSums x = parting(0);
        refused(x, "parts(1, 1, 0)", x.parts(1, 1, 0), -1, 5);
        refused(x, "parts(1, 0, 0)", x.parts(1, 0, 0), -1, 5);
        refused(x, "parts(4, 1, -1)", x.parts(4, 1, -1), -1, 5);
        refused(x, "parts(5, 0, 0)", x.parts(5, 0, 0), -1, 2);
    }

    static void promise25_aPickMayBeTheFirstVariable() {
        RoundedSums x = of("let p=pick 1<2 then 3 else 4 round 0");
        taken(x, "parts(0, 200, 0)", x.parts(0, 200, 0), -2);
    }

    static void promise25_equalWaysDontPart() {
        RoundedSums x = parting(74 - 1000);
        // g and h go the same way at every POINT, though what p tests has an ERROR.
        taken(x, "g", x.parts(2, 200, 0), -2);
        taken(x, "h", x.parts(3, 200, 0), -2);
        RoundedSums y = of("let a=7+0 round 2;let p=pick a<8 then 1 else 0 round 0");
        taken(y, "without INPUT", y.parts(1, 1, 0), 0);
    }

    // ---- promise 26: finer

    static void promise26_limitIsFrom0ToAMillion() {
        RoundedSums x = of("let a=3+0 round 2");
        taken(x, "0", x.finer(0, 0), 2);
        taken(x, "1000000", x.finer(0, 1_000_000), 0);
        for (int limit : new int[] {-1, 1_000_001, LEAST, MOST}) {
            refused(x, "finer(0, " + limit + ")", x.finer(0, limit), -1, 2);
        }
    }

    static void promise26_vIsAVariableAheadOfLimit() {
        RoundedSums x = of("input x from 0 to 2;let a=x+0 round 2");
        taken(x, "an INPUT", x.finer(0, 0), 0);
        for (int v : new int[] {-1, 2, LEAST, MOST}) {
            refused(x, "finer(" + v + ", 0)", x.finer(v, 0), -1, 1);
            refused(x, "finer(" + v + ", -1)", x.finer(v, -1), -1, 1);
        }
    }

    static void promise26_theLimitItselfIsEnough() {
        RoundedSums x = of("input x from 0 to 2;let a=x+0 round 8");
        // BOUND 128, 64, .., 1, 0.
        int[] limits = {128, 127, 64, 63, 32, 2, 1, 0};
        int[] times = {0, 1, 1, 2, 2, 6, 7, 8};
        for (int i = 0; i < limits.length; i++) {
            taken(x, "finer(1, " + limits[i] + ")", x.finer(1, limits[i]), times[i]);
        }
    }

    static void promise26_upTo96Times() {
        StringBuilder s = new StringBuilder("input x from 0 to 2;let a=x+0 round 8");
        for (char c = 'b'; c <= 'l'; c++) {
            s.append(";let ").append(c).append("=").append((char) (c - 1)).append("+x round 8");
        }
        RoundedSums x = of(s.toString());
        taken(x, "all to 0", x.finer(12, 0), 96);
        taken(x, "one NOISE is left", x.finer(12, 1), 95);
    }

    static void promise26_minus2IfTheBlamedOnesGridIs0() {
        // p is to blame, by J: 100.
        String text = "input x from 0 to 2;let a=x+0 round 2;let p=pick a<1 then 100 else 0 round #";
        RoundedSums x = of(text.replace("#", "0"));
        taken(x, "at once", x.finer(2, 99), -2);
        taken(x, "not needed", x.finer(2, 100), 0);
        // FINE of 100 and 0 is 2: GRID 1, 2 bring no NOISE, but p is made finer till 0.
        RoundedSums y = of(text.replace("#", "2"));
        taken(y, "by then", y.finer(2, 99), -2);
        RoundedSums z = of(text.replace("#", "3"));
        // 104 by ROUNDED, 100 without it.
        taken(z, "104", z.finer(2, 104), 0);
        taken(z, "103", z.finer(2, 103), 1);
        taken(z, "99", z.finer(2, 99), -2);
    }

    static void promise26_formsAreMadeAnewEachTime() {
        // b has no NOISE of its own while a is as coarse; a at 2 brings it one: 4, 6, then b at 2: 2.
        RoundedSums x = of("input x from 0 to 2;let a=x+0 round 3;let b=a+0 round 3");
        taken(x, "4", x.finer(2, 4), 0);
        taken(x, "3", x.finer(2, 3), 2);
        taken(x, "2", x.finer(2, 2), 2);
        taken(x, "1", x.finer(2, 1), 4);
        taken(x, "0", x.finer(2, 0), 6);
    }

    static void promise26_onPaperAlone() {
        RoundedSums x = of("input x from 0 to 2;let a=x+0 round 3;let b=a+0 round 3");
        x.set(0, 1);
        String before = state(x);
        taken(x, "finer", x.finer(2, 0), 6);
        same("state", state(x), before);
        taken(x, "from now on, each time", x.finer(2, 0), 6);
        due("grid", x.grid(1, 0), 3);
        taken(x, "from now on", x.finer(2, 0), 3);
    }
}
