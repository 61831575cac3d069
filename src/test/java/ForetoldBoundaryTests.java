/** What is FORETOLD, SEEN and the odds: each sentence that names a boundary case, below, at and above it. */
public final class ForetoldBoundaryTests {
    /** One dawn, lamed by each leg for ten stages, carries three riders: they come at 12, 36 and 60. */
    private static final String ONE_DAWN = "inn 1;inn 9;inn 9;dawn 0 5;rider 0 2;rider 0 2;rider 0 2";

    // ---- STAGES ahead

    private static void aheadUpTo60() {
        Calls.about("Of an HOUR behind n STAGES (0 .. 60): the INN (what 0), TIRED (1), 1 LAME, 0 (2)");
        Calls.told(ONE_DAWN).run("ahead 0 -1 0: OUTSIDE, ahead 0 LOW 0: OUTSIDE, ahead 0 0 0: 0, ahead 0 0 1: 5, ahead 0 0 2: 0,"
                + " ahead 0 1 0: 1, ahead 0 1 1: 10, ahead 0 1 2: 1, ahead 0 10 1: 1, ahead 0 10 2: 1, ahead 0 11 1: 0, ahead 0 11 2: 0,"
                + " ahead 0 59 0: 1, ahead 0 59 1: 0, ahead 0 59 2: 0, ahead 0 60 0: 2, ahead 0 60 1: 10, ahead 0 60 2: 1,"
                + " ahead 0 61 0: OUTSIDE, ahead 0 61 1: OUTSIDE, ahead 0 HIGH 0: OUTSIDE, ahead 0 0 -1: OUTSIDE, ahead 0 0 3: OUTSIDE,"
                + " ahead 0 60 HIGH: OUTSIDE, ahead 0 61 3: OUTSIDE, ahead 1 0 0: UNKNOWN, ahead -1 0 0: UNKNOWN, ahead 1 61 0: UNKNOWN,"
                + " ahead 1 0 3: UNKNOWN, count 3: 0, hour 0 2: 0, hour 0 3: 5, hour 0 5: 0, count 6: 0, count 9: 0");
    }

    private static void comesWithin60() {
        Calls.about("COMES: behind how many STAGES (0 .. 60) a RIDER is where he goes TO; his CLOCK then; none");
        Calls.told(ONE_DAWN).run("comes 0 0: 12, comes 0 1: 20, comes 1 0: 36, comes 1 1: 44, comes 2 0: 60, comes 2 1: 68,"
                + " lead 0 1: 0, comes 0 0: 13, comes 1 0: 37, comes 2 0: NONE, comes 2 1: NONE, stage 1: 1, comes 2 0: 60, comes 2 1: 69,"
                + " undo: 1, undo: 0, stage 1: 1, comes 2 0: 59, comes 2 1: 68, undo: 0, turn 2 0: 2, comes 2 0: 0, comes 2 1: 0,"
                + " comes 3 0: UNKNOWN, comes -1 0: UNKNOWN, comes 3 2: UNKNOWN, comes 2 -1: OUTSIDE, comes 2 2: OUTSIDE,"
                + " comes 2 LOW: OUTSIDE, comes 2 HIGH: OUTSIDE");
        Calls.told("inn 1;inn 1;rider 0 1;rider 1 1").run("comes 0 0: NONE, comes 0 1: NONE, comes 1 0: 0, comes 1 1: 0, stage 12: 12,"
                + " comes 0 0: NONE, comes 1 1: 0, turn 0 0: 1, comes 0 0: 0, comes 0 1: 12");
        Calls.told("inn 1;inn 1;hack 0 0;rider 0 1").run("comes 0 0: 1, comes 0 1: 1, stage 1: 1, comes 0 0: 0, comes 0 1: 1");
    }

    // ---- MATCH

    private static void matchOfNobodyOrTooFew() {
        Calls.about("none, if there is no such (nobody rides: 0)");
        Calls.fresh().run("match NONE: 0, match 0: UNKNOWN, match -2: UNKNOWN, match 4: UNKNOWN, match HIGH: UNKNOWN, match LOW: UNKNOWN");
        Calls.told("inn 1;rider 0 0;rider 0 0").run("match NONE: 0, match 0: NONE, match 1: NONE, match 2: UNKNOWN, match -2: UNKNOWN");
        Calls.told("inn 1;inn 3;rider 0 1").run("match NONE: NONE, match 0: NONE, turn 0 0: 1, match NONE: 0, match 0: NONE");
        Calls.told("inn 1;inn 3;hack 0 0;rider 0 1;rider 0 1").run("match NONE: NONE, match 0: NONE, match 1: NONE, turn 1 0: 1,"
                + " match NONE: 3, match 0: 0, match 1: NONE, lead 0 1: 0, match NONE: NONE, match 0: NONE");
        Calls.told("inn 1;inn 3;hack 0 0;hack 0 0;rider 0 1;rider 0 1").run("match NONE: 6, match 0: 0, match 1: 1, lead 1 1: 0,"
                + " match NONE: NONE, match 0: NONE, match 1: NONE");
        Calls.told("inn 1;inn 9;hack 0 9;rider 0 1").run("match NONE: 9, stage 1: 1, turn 0 0: 1, match NONE: NONE, shoe 0: 10,"
                + " match NONE: 9, match 0: 0");
        Calls.told("inn 1;inn 3;midnight 0 9;rider 0 1").run("match NONE: 6, match 0: 0");
        Calls.told("inn 1;inn 1;vicious 0 0;rider 0 1").run("stage 1: 1, turn 0 0: 1, stage 1: 2, turn 0 1: 0, match NONE: 1");
        Calls.told("inn 1;inn 1;" + Calls.times(4, "hack 0 0") + ";" + Calls.times(4, "rider 0 1")).run("match NONE: 4, match 0: 0,"
                + " match 1: 1, match 2: 2, match 3: 3, match 4: UNKNOWN, lead 3 1: 0, match NONE: NONE, match 3: NONE");
    }

    private static void matchOfSeveral() {
        Calls.about("is least together; of several the first (RIDER by RIDER the lesser HOUR)");
        Calls.told("inn 1;inn 2;hack 0 9;vicious 0 0;hack 0 5;rider 0 1;rider 0 1").run("match NONE: 4, match 0: 0, match 1: 1");
        Calls.told("inn 1;inn 1;hack 0 9;dawn 0 0;rider 0 1;rider 0 1").run("match NONE: 2, match 0: 0, match 1: 1");
        Calls.told("inn 1;inn 1;inn 9;dawn 1 0;hack 1 0;rider 1 0;rider 1 2").run("match NONE: 6, match 0: 1, match 1: 0");
        Calls.told("inn 1;inn 4;grey 0 0;hack 0 0;dawn 0 0;rider 0 1;rider 0 1").run("match NONE: 7, match 0: 1, match 1: 2");
        Calls.told("inn 1;inn 4;" + Calls.times(4, "midnight 0 0") + ";" + Calls.times(4, "hack 0 0") + ";" + Calls.times(4, "rider 0 1"))
                .run("match NONE: 16, match 0: 4, match 1: 5, match 2: 6, match 3: 7, lead 4 1: 0, match NONE: 20, match 0: 0,"
                        + " match 1: 5, match 2: 6, match 3: 7");
    }

    // ---- FASTEST

    private static void fastestByWhatIsThere() {
        Calls.about("if at each INN on his way he had any HOUR that is there now, not LAME, TIRED as now, and would not become LAME by it"
                + " (THROWS do not count); none");
        String road = "inn 1;inn 4;";
        Calls.told(road + "rider 0 0").run("fastest 0: 0, fastest 1: UNKNOWN, fastest -1: UNKNOWN, fastest HIGH: UNKNOWN, fastest LOW: UNKNOWN");
        Calls.told(road + "rider 0 1").run("fastest 0: NONE");
        Calls.told(road + "hack 1 0;rider 0 1").run("fastest 0: NONE, lead 0 0: 1, fastest 0: 4");
        Calls.told(road + "hack 0 4;rider 0 1").run("fastest 0: 4");
        Calls.told(road + "hack 0 5;rider 0 1").run("fastest 0: 4");
        Calls.told(road + "hack 0 6;rider 0 1").run("fastest 0: NONE, oats 0: 3, fastest 0: 4");
        Calls.told(road + "vicious 0 5;rider 0 1").run("fastest 0: 4");
        Calls.told(road + "vicious 0 6;rider 0 1").run("fastest 0: NONE");
        Calls.told(road + "dawn 0 1;rider 0 1").run("fastest 0: 3");
        Calls.told(road + "dawn 0 2;rider 0 1").run("fastest 0: NONE");
        Calls.told(road + "grey 0 9;rider 0 1").run("fastest 0: 8");
        Calls.told(road + "midnight 0 8;rider 0 1").run("fastest 0: 8");
        Calls.told(road + "midnight 0 9;rider 0 1").run("fastest 0: NONE");
        Calls.told(road + "midnight 0 8;hack 0 5;dawn 0 2;grey 0 0;rider 0 1").run("fastest 0: 4, oats 2: 0, fastest 0: 3");
        Calls.told("inn 1;inn 1;hack 0 9;rider 0 1").run("fastest 0: NONE, stage 10: 10, turn 0 0: 1, hour 0 3: 1, fastest 0: NONE,"
                + " stage 1: 11, hour 0 3: 0, fastest 0: 1");
        Calls.told("inn 1;inn 1;inn 1;hack 0 0;rider 0 2").run("fastest 0: NONE, stage 1: 1, fastest 0: 1, stage 1: 2, fastest 0: 0");
        Calls.told("inn 1;inn 1;inn 1;vicious 0 0;rider 0 2;grey 0 0").run("lead 1 1: 0, fastest 0: 3, lead 1 2: 1, fastest 0: NONE,"
                + " turn 0 0: 2, fastest 0: 0");
        Calls.told("inn 1;inn 1;vicious 0 0;rider 0 1").run("stage 1: 1, turn 0 0: 1, stage 1: 2, turn 0 1: 0, fastest 0: 1, stage 1: 3,"
                + " rider 0 2: 4, fastest 0: 1");
        Calls.told("inn 9;inn 1;inn 2;inn 3;inn 4;inn 5;hack 0 0;hack 1 0;hack 2 0;hack 3 0;hack 4 0;hack 5 0;rider 0 5;rider 5 0")
                .run("fastest 0: 15, fastest 1: 15, lead 0 5: 0, fastest 0: NONE, fastest 1: 15, lead 4 0: 4, fastest 1: NONE");
    }

    // ---- OATS for a RIDER

    private static void feedWithin40() {
        Calls.about("OATS for a RIDER, n STAGES (1 .. 40): .. so that, each having OATS once now, he COMES within n STAGES; none");
        Calls.told(ONE_DAWN).run("stage 12: 12, stage 8: 20, comes 2 0: 40, hour 0 3: 2, feed 2 40: 0, feed 2 39: 1, feed 2 38: 1,"
                + " feed 2 37: NONE, feed 2 41: OUTSIDE, feed 2 0: OUTSIDE, feed 2 -1: OUTSIDE, feed 2 LOW: OUTSIDE,"
                + " feed 2 HIGH: OUTSIDE, feed 3 0: UNKNOWN, feed 3 1: UNKNOWN, feed -1 41: UNKNOWN, count 3: 20, hour 0 3: 2, count 9: 2");
        Calls.told(ONE_DAWN).run("stage 12: 12, stage 7: 19, comes 2 0: 41, hour 0 3: 3, feed 2 40: 1, feed 2 38: 1, feed 2 37: NONE,"
                + " feed 0 1: 0, oats 0: 0, comes 2 0: 38, feed 2 40: 0, feed 2 37: NONE");
        Calls.told("inn 1;inn 1;rider 0 0;rider 0 1").run("feed 0 1: 0, feed 0 40: 0, feed 0 0: OUTSIDE, feed 1 1: NONE, feed 1 40: NONE,"
                + " feed 1 41: OUTSIDE");
        Calls.told("inn 1;inn 1;hack 0 0;rider 0 1").run("feed 0 1: 0, stage 1: 1, feed 0 1: 0");
        Calls.told("inn 1;inn 1;inn 1;hack 0 8;rider 0 2").run("feed 0 1: NONE, feed 0 2: 0");
        Calls.told("inn 1;inn 1;inn 1;hack 0 9;rider 0 2").run("feed 0 1: NONE, feed 0 2: 1, comes 0 0: 12, feed 0 11: 1, feed 0 12: 0,"
                + " hour 0 3: 9");
    }

    private static void feedTheFewest() {
        Calls.about("the set of HOURS (bits), the fewest (0 to 3), of as few the least");
        Calls.told("inn 1;inn 9;hack 1 9;hack 1 9;rider 1 0;rider 1 0").run("stage 8: 8, hour 0 3: 3, hour 1 3: 3, count 4: 3, turn 0 1: 0,"
                + " feed 0 1: 1, feed 0 3: 1, feed 0 4: 0, lead 0 1: 0, feed 0 1: 2, lead 1 1: 0, feed 0 1: NONE");
        // OATS are for one that is TIRED by 1, too.
        Calls.told("inn 1;inn 9;hack 1 9;rider 1 0;rider 1 0").run("stage 10: 10, lead 0 1: 0, hour 0 3: 1, hour 0 4: 1, feed 1 1: 1, feed 1 2: 0,"
                + " stage 1: 11, hour 0 3: 0, feed 1 1: 0");
        // The third hour alone carries him both legs; the first does one leg, and the second the other one.
        Calls.told("inn 1;inn 5;inn 5;inn 5;dawn 0 9;hack 2 9;hack 0 9;rider 0 1;rider 2 1;rider 0 1").run("stage 1: 1, count 4: 7, stage 7: 8,"
                + " hour 0 3: 3, hour 1 3: 3, hour 2 3: 3, lead 1 2: 1, turn 0 3: 1, feed 0 1: NONE, feed 0 2: 4, oats 2: 0, comes 0 0: 2,"
                + " undo: 4, oats 0: 0, comes 0 0: 4, feed 0 2: 2, oats 1: 0, comes 0 0: 2");
        // Either of two hours carries him the first leg, either of two others the second.
        Calls.told("inn 1;inn 5;inn 5;inn 5;dawn 0 9;dawn 0 9;hack 2 9;hack 2 9;rider 0 1;rider 0 1;rider 2 1;rider 2 1").run("stage 8: 8,"
                + " count 4: 15, lead 2 2: 1, lead 3 2: 1, turn 0 3: 1, feed 0 1: NONE, feed 0 2: 5, lead 0 0: 1, feed 0 2: 6,"
                + " lead 2 0: 2, feed 0 2: 10, lead 1 0: 1, feed 0 2: NONE");
    }

    /** Four dawns, lamed one stage behind another, so that each of them must be fed for its leg. */
    private static Calls fourLegs() {
        return Calls.told("inn 1;inn 9;inn 9;inn 9;inn 9;dawn 0 9;dawn 1 9;dawn 2 9;dawn 3 9;rider 1 1;rider 0 0;rider 2 2;rider 3 3")
                .run("turn 1 1: 0, stage 1: 1, turn 0 0: 1, stage 1: 2, turn 2 3: 2, stage 1: 3, turn 3 4: 3, stage 1: 4, stage 4: 8")
                .run("hour 0 3: 3, hour 1 3: 4, hour 2 3: 5, hour 3 3: 6, count 4: 15")
                .run("lead 0 0: 1, lead 1 1: 0, lead 2 2: 3, lead 3 3: 4, turn 0 4: 0");
    }

    private static void feedThreeAtMost() {
        Calls.about("the fewest (0 to 3)");
        fourLegs().run("comes 0 0: 7, feed 0 7: 0, feed 0 6: NONE, feed 0 5: NONE, feed 0 4: NONE, oats 0: 0, oats 1: 1, oats 2: 2, oats 3: 3,"
                + " comes 0 0: 4, feed 0 4: 0, feed 0 3: NONE");
        fourLegs().run("oats 3: 3, feed 0 4: 7, feed 0 3: NONE, oats 2: 2, feed 0 4: 3, oats 1: 1, feed 0 4: 1, oats 0: 0, feed 0 4: 0");
        fourLegs().run("oats 0: 0, feed 0 4: 14, oats 1: 1, feed 0 4: 12, oats 3: 3, feed 0 4: 4, feed 0 6: 4, feed 0 7: 0");
    }

    // ---- SEEN

    private static void sixSeen() {
        Calls.about("SEEN, 6 at most");
        Calls.fresh().run("count 7: 0, forget: 0, seen 1 1 1: 1, seen 1 1 1: 2, seen 1 1 1: 3, seen 1 1 1: 4, seen 1 1 1: 5, seen 1 2 0: 6,"
                + " count 7: 6, kinds: 0, seen 1 1 1: FULL, seen 9 20 20: FULL, seen 10 1 1: OUTSIDE, seen 1 21 1: OUTSIDE,"
                + " seen 1 1 -1: OUTSIDE, count 7: 6, kinds: 0, forget: 6, count 7: 0, kinds: 31, forget: 0, seen 1 2 0: 1, kinds: 8");
        Calls.fresh().run("seen 1 1 1: 1, seen 2 2 2: 2, seen 3 3 3: 3, seen 4 4 4: 4, seen 5 5 5: 5, kinds: 3, seen 9 5 18: 6, kinds: 0");
    }

    private static void seenWithinBounds() {
        Calls.about("RIDDEN m MILES (1 .. 9), took t of the CLOCK (0 .. 20), was TIRED by d more (0 .. 20)");
        Calls.fresh().run("seen 0 1 1: OUTSIDE, seen -1 1 1: OUTSIDE, seen 10 1 1: OUTSIDE, seen LOW 1 1: OUTSIDE, seen HIGH 1 1: OUTSIDE,"
                + " seen 1 -1 1: OUTSIDE, seen 1 21 1: OUTSIDE, seen 1 LOW 1: OUTSIDE, seen 1 HIGH 1: OUTSIDE, seen 1 1 -1: OUTSIDE,"
                + " seen 1 1 21: OUTSIDE, seen 1 1 LOW: OUTSIDE, seen 1 1 HIGH: OUTSIDE, count 7: 0, kinds: 31, seen 1 0 0: 1, seen 9 20 20: 2,"
                + " seen 1 20 0: 3, seen 9 0 20: 4, count 7: 4");
    }

    private static void kindsByWhatWasSeen() {
        Calls.about("KINDS (0 .. 4, by bits) by which all that is SEEN would be so");
        int[] half = {1, 2, 2, 3, 3, 4, 4, 5, 5};
        Calls.fresh().run("kinds: 31");
        for (int m = 1; m <= 9; m++) {
            String[] takes = {m + " " + m, half[m - 1] + " " + 2 * m, 2 * m + " 0", 2 * m + " 1"};
            int[] kinds = {3, 4, 8, 16};
            for (int i = 0; i < takes.length; i++) {
                Calls.fresh().run("seen " + m + " " + takes[i] + ": 1, kinds: " + kinds[i] + ", ask: NONE");
            }
            Calls.fresh().run("seen " + m + " " + 2 * m + " 2: 1, kinds: 0, ask: NONE");
            Calls.fresh().run("seen " + m + " 0 0: 1, kinds: 0, ask: NONE");
        }
        Calls.fresh().run("seen 5 5 5: 1, kinds: 3, seen 9 9 9: 2, kinds: 3, seen 9 18 0: 3, kinds: 0, ask: NONE, forget: 3, kinds: 31");
    }

    private static void askedMiles() {
        Calls.about("ASK: MILES (1 .. 9) by which these are parted best .. of like ones the least; none (none parts them)");
        Calls.fresh().run("ask: 1, seen 1 1 1: 1, ask: NONE, seen 1 1 2: 2, kinds: 0, ask: NONE, forget: 2, ask: 1, seen 9 18 1: 1,"
                + " kinds: 16, ask: NONE");
    }

    // ---- FALLS

    private static void dueFalls(int n, int q, int m, int above, int below) {
        Calls.fresh().run("falls " + n + " " + q + " " + m + " 0: " + above + ", falls " + n + " " + q + " " + m + " 1: " + below);
    }

    private static void fallsAtTheEdges() {
        Calls.about("FALLS: each of n RIDES (0 .. 9) ends in a fall by q of ten (0 .. 10), by itself: the odds of m falls (0 .. 9) at least");
        for (int q = 0; q <= 10; q += 5) {
            dueFalls(0, q, 0, 1, 1);
            dueFalls(0, q, 1, 0, 1);
            dueFalls(0, q, 9, 0, 1);
            dueFalls(9, q, 0, 1, 1);
            dueFalls(8, q, 9, 0, 1);
        }
        dueFalls(9, 0, 1, 0, 1);
        dueFalls(9, 0, 9, 0, 1);
        dueFalls(9, 10, 1, 1, 1);
        dueFalls(9, 10, 9, 1, 1);
        dueFalls(1, 0, 1, 0, 1);
        dueFalls(1, 1, 1, 1, 10);
        dueFalls(1, 2, 1, 1, 5);
        dueFalls(1, 5, 1, 1, 2);
        dueFalls(1, 9, 1, 9, 10);
        dueFalls(1, 10, 1, 1, 1);
        dueFalls(9, 1, 9, 1, 1000000000);
        dueFalls(9, 9, 9, 387420489, 1000000000);
        dueFalls(9, 5, 1, 511, 512);
        dueFalls(9, 5, 9, 1, 512);
        dueFalls(9, 5, 5, 1, 2);
        dueFalls(9, 2, 9, 1, 1953125);
        dueFalls(2, 4, 1, 16, 25);
        dueFalls(8, 5, 8, 1, 256);
    }

    private static void fallsOutside() {
        Calls.about("Parts are told in lowest terms: above (part 0), below (1)");
        String[] outside = {"-1 0 0 0", "10 0 0 0", "LOW 0 0 0", "HIGH 0 0 0", "0 -1 0 0", "0 11 0 0", "0 LOW 0 0", "0 HIGH 0 0",
            "0 0 -1 0", "0 0 10 0", "0 0 LOW 0", "0 0 HIGH 0", "0 0 0 -1", "0 0 0 2", "0 0 0 LOW", "0 0 0 HIGH", "9 10 9 2", "10 11 10 2"};
        for (String one : outside) {
            Calls.fresh().run("falls " + one + ": OUTSIDE");
        }
        Calls.fresh().run("falls 9 10 9 0: 1, falls 9 10 9 1: 1, falls 4 2 4 0: 1, falls 4 2 4 1: 625");
    }

    public static void main(String[] args) {
        aheadUpTo60();
        comesWithin60();
        matchOfNobodyOrTooFew();
        matchOfSeveral();
        fastestByWhatIsThere();
        feedWithin40();
        feedTheFewest();
        feedThreeAtMost();
        sixSeen();
        seenWithinBounds();
        kindsByWhatWasSeen();
        askedMiles();
        fallsAtTheEdges();
        fallsOutside();
        Calls.end("bounds of what is foretold and seen");
    }
}
