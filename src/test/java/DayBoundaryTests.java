/** HOURS, RIDERS, STAGES and what is done: each sentence that names a boundary case, below, at and above it. */
public final class DayBoundaryTests {
    private static final String SIX_SHORT = Calls.times(6, "inn 1") + ";";
    private static final String ROAD_END = "inn 1;inn 1;";

    // ---- helpers

    /** One ride of m MILES by an HOUR: how it is TIRED and LAME behind it. */
    private static void dueRide(String kind, int tired, int miles, int wantTired, int wantLame) {
        Calls.told("inn 1;inn " + miles + ";" + kind + " 0 " + tired + ";rider 0 1").run("hour 0 4: 0, stage 1: 1, hour 0 2: 1,"
                + " hour 0 3: " + wantTired + ", hour 0 4: " + wantLame + ", hour 0 5: 1, rider 0 0: 1");
    }

    /** One STAGE in which an HOUR is not RIDDEN. */
    private static void dueRest(String kind, int tired, int wantTired) {
        Calls.told("inn 1;" + kind + " 0 " + tired).run("stage 1: 1, hour 0 3: " + wantTired + ", hour 0 4: 0, hour 0 5: 0");
    }

    /** An HOUR that stage 1 lames, at INN 1 and TIRED by 10; stage n makes it TIRED by 11 - n. */
    private static Calls lamed(String kind) {
        return Calls.told("inn 1;inn 9;" + kind + " 0 9;rider 0 1").run("stage 1: 1, hour 0 3: 10, hour 0 4: 1, hour 0 2: 1");
    }

    // ---- TIRED and LAME

    private static void lameByTen() {
        Calls.about("One that is TIRED by 10 or more then is LAME, TIRED by 10");
        dueRide("hack", 3, 5, 8, 0);
        dueRide("hack", 4, 5, 9, 0);
        dueRide("hack", 5, 5, 10, 1);
        dueRide("hack", 6, 5, 10, 1);
        dueRide("hack", 0, 9, 9, 0);
        dueRide("hack", 1, 9, 10, 1);
        dueRide("hack", 9, 1, 10, 1);
        dueRide("hack", 9, 9, 10, 1);
        dueRide("vicious", 1, 8, 9, 0);
        dueRide("vicious", 2, 8, 10, 1);
        dueRide("dawn", 0, 4, 8, 0);
        dueRide("dawn", 1, 4, 9, 0);
        dueRide("dawn", 0, 5, 10, 1);
        dueRide("dawn", 2, 4, 10, 1);
        dueRide("dawn", 9, 9, 10, 1);
        dueRide("grey", 9, 9, 9, 0);
        dueRide("midnight", 7, 9, 8, 0);
        dueRide("midnight", 8, 9, 9, 0);
        dueRide("midnight", 9, 1, 10, 1);
    }

    private static void lameByAThrow() {
        Calls.about("if it THROWS by KIND at that, his CLOCK is 2 more, it is TIRED by 1 more, both stay");
        String road = "inn 1;inn 1;inn 6;inn 1;vicious 0 ";
        Calls.told(road + "1;rider 0 3").run("stage 2: 2, hour 0 3: 8, rider 0 2: 7, stage 1: 3, hour 0 3: 9, hour 0 4: 0,"
                + " hour 0 2: 2, rider 0 0: 2, rider 0 2: 9, stage 1: 4, rider 0 0: 3, rider 0 2: 10, hour 0 3: 10, hour 0 4: 1");
        Calls.told(road + "2;rider 0 3").run("stage 2: 2, hour 0 3: 9, hour 0 4: 0, stage 1: 3, hour 0 3: 10, hour 0 4: 1,"
                + " hour 0 2: 2, rider 0 0: 2, rider 0 2: 9, stage 1: 4, rider 0 0: 2, rider 0 2: 10, hour 0 3: 9, hour 0 5: 3");
    }

    private static void lameNoMoreAtNought() {
        Calls.about("a LAME one is TIRED by 1 less, and, at 0, LAME no more");
        String[] kinds = {"hack", "vicious", "dawn", "midnight"};
        for (String kind : kinds) {
            lamed(kind).run("stage 1: 2, hour 0 3: 9, hour 0 4: 1, stage 1: 3, hour 0 3: 8, hour 0 4: 1, stage 6: 9, hour 0 3: 2,"
                    + " hour 0 4: 1, stage 1: 10, hour 0 3: 1, hour 0 4: 1, count 4: 1, stage 1: 11, hour 0 3: 0, hour 0 4: 0,"
                    + " count 4: 0, hour 0 2: 1, stage 1: 12, hour 0 3: 0, hour 0 2: 0");
        }
    }

    private static void restsToNought() {
        Calls.about("others by as much less as by KIND they RESTS (0 at least)");
        String[] twos = {"hack", "dawn"};
        for (String kind : twos) {
            dueRest(kind, 0, 0);
            dueRest(kind, 1, 0);
            dueRest(kind, 2, 0);
            dueRest(kind, 3, 1);
            dueRest(kind, 9, 7);
        }
        dueRest("vicious", 1, 0);
        dueRest("vicious", 2, 0);
        dueRest("vicious", 3, 0);
        dueRest("vicious", 4, 1);
        dueRest("vicious", 9, 6);
        String[] ones = {"grey", "midnight"};
        for (String kind : ones) {
            dueRest(kind, 0, 0);
            dueRest(kind, 1, 0);
            dueRest(kind, 2, 1);
            dueRest(kind, 9, 8);
        }
    }

    private static void riddenDoNotRest() {
        Calls.about("Then HOURS that were not RIDDEN in it");
        Calls.told(SIX_SHORT + "grey 0 5;rider 0 1").run("stage 1: 1, hour 0 3: 5, stage 1: 2, hour 0 3: 4");
        Calls.told("inn 1;inn 1;vicious 0 0;rider 0 1").run("stage 1: 1, hour 0 3: 1, turn 0 0: 1, stage 1: 2, hour 0 3: 2,"
                + " turn 0 1: 0, stage 1: 3, hour 0 3: 3, hour 0 2: 0, stage 1: 4, hour 0 3: 4, hour 0 2: 1");
    }

    // ---- THROWS

    private static void eachThirdTime() {
        Calls.about("THROWS each third time that it is RIDDEN (3, 6 ..)");
        int[][] stages = {{1, 1, 1}, {2, 2, 2}, {2, 4, 3}, {3, 5, 4}, {4, 6, 5}, {4, 8, 6}, {5, 9, 7}, {4, 10, 8}, {4, 12, 9},
            {3, 13, 10}};
        Calls day = Calls.told(SIX_SHORT + "vicious 0 0;rider 0 5");
        for (int i = 0; i < stages.length; i++) {
            if (i == 7) {
                day.run("turn 0 0: 5");
            }
            day.run("stage 1: " + (i + 1) + ", rider 0 0: " + stages[i][0] + ", hour 0 2: " + stages[i][0] + ", rider 0 2: "
                    + stages[i][1] + ", hour 0 5: " + (i + 1) + ", hour 0 3: " + stages[i][2]);
        }
        Calls.told(ROAD_END + "vicious 0 0;rider 0 1").run("stage 1: 1, turn 0 0: 1, stage 1: 2, stage 5: 7, turn 0 1: 0,"
                + " stage 1: 8, rider 0 0: 0, rider 0 2: 4, hour 0 5: 3, undo: 5, hour 0 5: 2, stage 1: 8, hour 0 5: 3,"
                + " stage 1: 9, rider 0 0: 1, rider 0 2: 5, hour 0 5: 4");
        String[] others = {"hack", "dawn", "grey", "midnight"};
        for (String kind : others) {
            Calls.told(SIX_SHORT + kind + " 0 0;rider 0 5").run("stage 3: 3, rider 0 0: 3, hour 0 5: 3, hour 0 2: 3");
        }
    }

    // ---- by KIND

    private static void takesAndTires() {
        Calls.about("HACK: TAKES m, TIRES by m .. DAWN: TAKES half (cut) and 1, TIRES twice as much. GREY: TAKES twice m, TIRES"
                + " by 0 .. MIDNIGHT: TIRES by 1 more");
        int[] half = {1, 2, 2, 3, 3, 4, 4, 5, 5};
        for (int m = 1; m <= 9; m++) {
            String road = "inn 1;inn " + m + ";";
            Calls.told(road + "hack 0 0;rider 0 1").run("stage 1: 1, rider 0 2: " + m + ", hour 0 3: " + m);
            Calls.told(road + "vicious 0 0;rider 0 1").run("stage 1: 1, rider 0 2: " + m + ", hour 0 3: " + m);
            Calls.told(road + "dawn 0 0;rider 0 1").run("stage 1: 1, rider 0 2: " + half[m - 1] + ", hour 0 3: "
                    + Math.min(10, 2 * m) + ", hour 0 4: " + (m >= 5 ? 1 : 0));
            Calls.told(road + "grey 0 0;rider 0 1").run("stage 1: 1, rider 0 2: " + 2 * m + ", hour 0 3: 0");
            Calls.told(road + "midnight 0 0;rider 0 1").run("stage 1: 1, rider 0 2: " + 2 * m + ", hour 0 3: 1");
        }
    }

    private static void kindsOverOneAnother() {
        Calls.about("An HOUR taken as a KIND (0 .. 5, as they are over one another): what it TAKES for 5 MILES");
        Calls.told("inn 1;hack 0 0;vicious 0 0;dawn 0 0;grey 0 0;midnight 0 0")
                .run("as 0 -1: OUTSIDE, as 0 0: 5, as 0 1: 5, as 0 2: NOT, as 0 3: NOT, as 0 4: NOT, as 0 5: NOT, as 0 6: OUTSIDE")
                .run("as 1 -1: OUTSIDE, as 1 0: 5, as 1 1: 5, as 1 2: 5, as 1 3: NOT, as 1 4: NOT, as 1 5: NOT, as 1 6: OUTSIDE")
                .run("as 2 -1: OUTSIDE, as 2 0: 3, as 2 1: 3, as 2 2: NOT, as 2 3: 3, as 2 4: NOT, as 2 5: NOT, as 2 6: OUTSIDE")
                .run("as 3 -1: OUTSIDE, as 3 0: 10, as 3 1: NOT, as 3 2: NOT, as 3 3: NOT, as 3 4: 10, as 3 5: NOT, as 3 6: OUTSIDE")
                .run("as 4 -1: OUTSIDE, as 4 0: 10, as 4 1: NOT, as 4 2: NOT, as 4 3: NOT, as 4 4: 10, as 4 5: 10, as 4 6: OUTSIDE")
                .run("as 5 0: UNKNOWN, as -1 0: UNKNOWN, as 5 6: UNKNOWN, as LOW LOW: UNKNOWN, as 0 HIGH: OUTSIDE, as 0 LOW: OUTSIDE");
    }

    // ---- GIVEN

    private static void givenNone() {
        Calls.about("if none is GIVEN to one, his CLOCK is 1 more");
        Calls.told(ROAD_END + "rider 0 1").run("given 0: NONE, stage 1: 1, rider 0 0: 0, rider 0 2: 1, stage 12: 13, rider 0 2: 13");
        Calls.told(ROAD_END + "hack 1 0;rider 0 1").run("given 0: NONE, stage 1: 1, rider 0 0: 0, rider 0 2: 1");
        Calls.told(ROAD_END + "hack 0 0;rider 0 1;rider 0 1").run("given 0: 0, given 1: 0, stage 1: 1, rider 0 0: 1, rider 0 2: 1,"
                + " rider 1 0: 0, rider 1 2: 1, hour 0 5: 1");
        Calls.told(ROAD_END + "inn 1;grey 0 0;rider 0 1;rider 1 2").run("given 1: NONE, stage 1: 1, rider 0 2: 2, rider 1 0: 1,"
                + " rider 1 2: 1, given 1: 0, stage 1: 2, rider 1 0: 2, rider 1 2: 3");
        Calls.told(ROAD_END + "vicious 0 0;rider 0 1;rider 0 0").run("stage 1: 1, turn 0 0: 1, stage 1: 2, turn 0 1: 0, turn 1 1: 0,"
                + " stage 1: 3, rider 0 0: 0, rider 0 2: 4, rider 1 0: 0, rider 1 2: 1, hour 0 5: 3");
        lamed("hack").run("turn 0 0: 1, given 0: NONE, stage 1: 2, rider 0 0: 1, rider 0 2: 10");
        Calls.told("inn 1;hack 0 0;rider 0 0").run("given 0: NONE, stage 12: 12, rider 0 2: 0, hour 0 5: 0");
    }

    private static void dueGiven(String hours, int want) {
        Calls.told(ROAD_END + hours + ";rider 0 1").run("given 0: " + want + ", stage 1: 1, hour " + want + " 5: 1, hour " + want
                + " 2: 1, rider 0 0: 1");
    }

    private static void givenInOrder() {
        Calls.about("one that is WILLING by KIND ahead of one that is not, of like ones the least TIRED, of these the least number");
        dueGiven("midnight 0 0", 0);
        dueGiven("midnight 0 0;grey 0 9", 1);
        dueGiven("midnight 0 0;hack 0 9", 1);
        dueGiven("midnight 0 0;vicious 0 9", 1);
        dueGiven("midnight 0 0;dawn 0 9", 1);
        dueGiven("midnight 0 3;midnight 0 2", 1);
        dueGiven("midnight 0 2;midnight 0 3", 0);
        dueGiven("midnight 0 2;midnight 0 2", 0);
        dueGiven("hack 0 1;hack 0 0", 1);
        dueGiven("hack 0 1;hack 0 1", 0);
        dueGiven("grey 0 2;dawn 0 1;vicious 0 1;hack 0 3", 1);
        dueGiven("grey 1 0;grey 0 9", 1);
        dueGiven(Calls.times(7, "grey 0 1") + ";grey 0 0", 7);
        dueGiven(Calls.times(8, "grey 0 1"), 0);
    }

    private static void nextInnOnHisWay() {
        Calls.about("it goes with him to the next INN on his way, m MILES");
        Calls.told("inn 9;inn 2;inn 3;grey 0 0;rider 0 2").run("stage 1: 1, rider 0 0: 1, rider 0 2: 4, stage 1: 2, rider 0 0: 2,"
                + " rider 0 2: 10, stage 1: 3, rider 0 2: 10, hour 0 2: 1, lead 0 2: 1, turn 0 0: 2, stage 1: 4, rider 0 0: 1,"
                + " rider 0 2: 16, stage 1: 5, rider 0 0: 0, rider 0 2: 20, stage 1: 6, rider 0 0: 0, rider 0 2: 20");
        Calls.told(SIX_SHORT + "grey 5 0;rider 5 0").run("stage 4: 4, rider 0 0: 1, stage 1: 5, rider 0 0: 0, hour 0 2: 0,"
                + " stage 1: 6, rider 0 0: 0, rider 0 2: 10");
        Calls.told(SIX_SHORT + "grey 0 0;rider 0 5").run("stage 4: 4, rider 0 0: 4, stage 1: 5, rider 0 0: 5, stage 1: 6,"
                + " rider 0 0: 5, rider 0 2: 10");
    }

    private static void ridersRising() {
        Calls.about("A STAGE: first RIDERS, rising, who are not where they go TO");
        Calls.told(ROAD_END + "hack 0 0;grey 0 1;rider 0 1;rider 0 1;rider 0 0;rider 0 1").run("stage 1: 1, rider 0 2: 1,"
                + " rider 1 2: 2, rider 2 2: 0, rider 3 2: 1, rider 3 0: 0, count 5: 7");
    }

    // ---- led

    private static void nobodyToLead() {
        Calls.about("of HOURS there that are not at HOME, not LAME, were not RIDDEN or led in this STAGE, the least number is led");
        Calls.told(ROAD_END + "hack 0 0;hack 1 0").run("stage 1: 1, hour 0 2: 0, hour 1 2: 1");
        Calls.told("inn 1").run("stage 12: 12");
        Calls.fresh().run("stage 12: 12, count 3: 12");
        Calls.told(ROAD_END + "grey 0 0;rider 0 1").run("stage 1: 1, hour 0 2: 1, stage 1: 2, hour 0 2: 0, stage 1: 3, hour 0 2: 0");
        Calls.told(ROAD_END + "hack 0 0;hack 0 0;hack 0 0").run("lead 1 1: 0, lead 2 1: 0, stage 1: 1, hour 0 2: 0, hour 1 2: 0,"
                + " hour 2 2: 1, stage 1: 2, hour 2 2: 0");
        Calls.told(ROAD_END + "inn 1;hack 2 0;hack 2 0").run("lead 0 0: 2, lead 1 1: 2, stage 1: 1, hour 0 2: 1, hour 1 2: 2,"
                + " stage 1: 2, hour 0 2: 2, stage 1: 3, hour 0 2: 2");
        Calls.told(ROAD_END + "inn 1;hack 0 0;hack 0 0;hack 2 0").run("lead 0 2: 0, lead 1 1: 0, lead 2 1: 2, stage 1: 1,"
                + " hour 0 2: 1, hour 1 2: 0, hour 2 2: 1, stage 1: 2, hour 0 2: 0, hour 2 2: 1, stage 1: 3, hour 2 2: 2");
    }

    private static void notToBeLed() {
        Calls.about("not LAME, were not RIDDEN");
        Calls.told("inn 1;inn 1;hack 0 9;rider 0 1;hack 0 0").run("lead 1 1: 0, stage 1: 1, hour 0 4: 1, hour 1 2: 0,"
                + " lead 1 1: 0, stage 1: 2, hour 0 2: 1, hour 1 2: 0");
        Calls.told(ROAD_END + "inn 1;hack 0 0;hack 0 5;rider 1 2").run("lead 0 1: 0, lead 1 1: 0, stage 1: 1, hour 0 2: 2,"
                + " hour 1 2: 0, hour 1 3: 3");
        Calls.told(ROAD_END + "inn 1;vicious 0 0;rider 0 2").run("stage 2: 2, turn 0 1: 2, stage 1: 3, hour 0 2: 2, hour 0 5: 3,"
                + " stage 1: 4, hour 0 2: 1, stage 1: 5, hour 0 2: 0");
        lamed("hack").run("shoe 0: 10, stage 1: 2, hour 0 2: 0, hour 0 3: 3");
    }

    private static void wholeWayHome() {
        Calls.about("led to the next INN on its way HOME");
        Calls.told(SIX_SHORT + "hack 0 0;hack 5 0").run("lead 0 5: 0, lead 1 0: 5, stage 4: 4, hour 0 2: 1, hour 1 2: 4,"
                + " stage 1: 5, hour 0 2: 0, hour 1 2: 5, stage 1: 6, hour 0 2: 0, hour 1 2: 5");
    }

    // ---- STAGES

    private static void stagesAtOnce() {
        Calls.about("STAGES (n 1 .. 12, together they are undone): which it is. OUTSIDE");
        Calls.fresh().run("stage LOW: OUTSIDE, stage -1: OUTSIDE, stage 0: OUTSIDE, count 9: 0, stage 1: 1, stage 2: 3, stage 11: 14,"
                + " stage 12: 26, stage 13: OUTSIDE, stage HIGH: OUTSIDE, count 3: 26, count 9: 4, undo: 3, count 3: 14, undo: 2,"
                + " count 3: 3, undo: 1, count 3: 1, undo: 0, count 3: 0");
        Calls many = Calls.told(SIX_SHORT + "vicious 0 0;dawn 3 5;rider 0 5;rider 5 0");
        Calls one = Calls.told(SIX_SHORT + "vicious 0 0;dawn 3 5;rider 0 5;rider 5 0");
        for (int i = 1; i <= 12; i++) {
            one.run("stage 1: " + i);
        }
        many.run("stage 12: 12");
        for (int r = 0; r < 2; r++) {
            for (int what = 0; what < 6; what++) {
                String hour = "hour " + r + " " + what;
                many.run(hour + ": " + one.call(hour));
            }
            many.run("rider " + r + " 0: " + one.call("rider " + r + " 0") + ", rider " + r + " 2: " + one.call("rider " + r + " 2"));
        }
    }

    /** STAGES in twelves up to 984. */
    private static Calls late() {
        Calls day = Calls.told("inn 1;inn 1;hack 0 0;rider 0 0");
        for (int i = 1; i <= 82; i++) {
            day.run("stage 12: " + 12 * i);
        }
        return day;
    }

    private static void stagesUpTo999() {
        Calls.about("FULL: it would be above 999");
        late().run("stage 3: 987, stage 12: 999, stage 1: FULL, count 3: 999, count 9: 8, undo: 7, count 3: 987");
        late().run("stage 4: 988, stage 12: FULL, count 3: 988, stage 11: 999, stage 12: FULL, stage 13: OUTSIDE, stage 0: OUTSIDE");
        late().run("stage 12: 996, stage 2: 998, stage 2: FULL, stage 1: 999, stage 1: FULL, undo: 7, stage 1: 999");
        late().run("keep 0: 984, stage 12: 996, stage 3: 999, back 0: 984, stage 12: 996, undo: 0, count 3: 984");
        late().run("stage 12: 996, stage 3: 999, ahead 0 60 0: 0, turn 0 1: 0, comes 0 0: 1, comes 0 1: 1, feed 0 1: 0,"
                + " stage 1: FULL, count 3: 999").tell("inn 1").run("count 3: 0, stage 12: 12");
    }

    // ---- OATS, SHOES, LED, TURNED

    private static void oatsByThree() {
        Calls.about("OATS: an HOUR is TIRED by 3 less (0 at least; LAME no more, if it is 0) .. NOT: by 0");
        String[] wants = {"NOT", "0", "0", "0", "1", "2", "3", "4", "5", "6"};
        for (int tired = 0; tired <= 9; tired++) {
            int left = tired <= 3 ? 0 : tired - 3;
            Calls.told("inn 1;dawn 0 " + tired).run("oats 0: " + wants[tired] + ", hour 0 3: " + left + ", count 9: "
                    + (tired == 0 ? 0 : 1) + ", oats 1: UNKNOWN, oats -1: UNKNOWN, hour 0 4: 0");
        }
        lamed("hack").run("oats 0: 7, hour 0 4: 1, oats 0: 4, hour 0 4: 1, oats 0: 1, hour 0 4: 1, oats 0: 0, hour 0 4: 0, oats 0: NOT");
        lamed("hack").run("stage 6: 7, hour 0 3: 4, oats 0: 1, hour 0 4: 1, undo: 2, stage 1: 8, hour 0 3: 3, oats 0: 0, hour 0 4: 0,"
                + " undo: 3, stage 1: 9, hour 0 3: 2, oats 0: 0, hour 0 4: 0");
        Calls.told("inn 1;" + Calls.times(8, "hack 0 4")).run("oats 7: 1, oats 8: UNKNOWN, oats LOW: UNKNOWN, oats HIGH: UNKNOWN");
    }

    private static void shoesOfALameOne() {
        Calls.about("SHOES: a LAME one is LAME no more, TIRED by 5 .. by how much it was TIRED .. NOT: it is not LAME");
        Calls.told("inn 1;hack 0 0;hack 0 9").run("shoe 0: NOT, shoe 1: NOT, shoe 2: UNKNOWN, shoe -1: UNKNOWN, hour 0 3: 0,"
                + " hour 1 3: 9, count 9: 0");
        lamed("hack").run("shoe 0: 10, hour 0 3: 5, hour 0 4: 0, hour 0 2: 1, hour 0 5: 1, shoe 0: NOT, hour 0 3: 5");
        lamed("hack").run("stage 5: 6, shoe 0: 5, hour 0 3: 5, hour 0 4: 0");
        lamed("hack").run("stage 9: 10, shoe 0: 1, hour 0 3: 5, hour 0 4: 0");
        lamed("hack").run("stage 10: 11, shoe 0: NOT, hour 0 3: 0");
    }

    private static void ledToAnother() {
        Calls.about("LED: an HOUR is at another INN .. NOT: it is there");
        Calls.told(SIX_SHORT + Calls.times(8, "hack 0 4")).run("lead 7 0: NOT, lead 7 1: 0, lead 7 1: NOT, lead 7 5: 1, lead 7 6: UNKNOWN,"
                + " lead 7 -1: UNKNOWN, lead 8 1: UNKNOWN, lead -1 1: UNKNOWN, lead 8 6: UNKNOWN, lead HIGH LOW: UNKNOWN, hour 7 2: 5,"
                + " hour 7 1: 0, hour 7 3: 4, hour 7 5: 0, count 9: 2, lead 7 0: 5");
        lamed("hack").run("lead 0 0: 1, hour 0 4: 1, hour 0 3: 10, hour 0 2: 0");
    }

    private static void turnedToAnother() {
        Calls.about("TURNED: a RIDER goes TO another INN .. NOT: it is that");
        Calls.told(SIX_SHORT + Calls.times(4, "rider 2 0")).run("turn 3 0: NOT, turn 3 1: 0, turn 3 1: NOT, turn 3 5: 1, turn 3 6: UNKNOWN,"
                + " turn 3 -1: UNKNOWN, turn 4 1: UNKNOWN, turn -1 1: UNKNOWN, turn 4 6: UNKNOWN, turn LOW HIGH: UNKNOWN, rider 3 1: 5,"
                + " rider 3 0: 2, count 9: 2, count 5: 0, turn 3 2: 5, count 5: 8, turn 3 0: 2, rider 3 2: 0");
    }

    // ---- undone and kept

    private static void lastEightUndone() {
        Calls.about("is undone (the last 8 can be): how many can be undone yet. NOT: none");
        for (int doings = 0; doings <= 17; doings++) {
            Calls day = Calls.fresh();
            for (int i = 1; i <= doings; i++) {
                day.run("stage 1: " + i + ", count 9: " + Math.min(i, 8));
            }
            int left = Math.min(doings, 8);
            for (int i = left - 1; i >= 0; i--) {
                day.run("undo: " + i + ", count 3: " + (doings - left + i) + ", count 9: " + i);
            }
            day.run("undo: NOT, count 3: " + (doings - left) + ", stage 1: " + (doings - left + 1) + ", undo: 0, undo: NOT");
        }
        Calls.told("inn 1;inn 1;hack 0 9;rider 0 1").run("undo: NOT, stage 1: 1, shoe 0: 10, oats 0: 2, lead 0 0: 1, turn 0 0: 1, count 9: 5,"
                + " undo: 4, rider 0 1: 1, undo: 3, hour 0 2: 1, undo: 2, hour 0 3: 5, undo: 1, hour 0 3: 10, hour 0 4: 1, undo: 0,"
                + " hour 0 3: 9, hour 0 4: 0, hour 0 2: 0, hour 0 5: 0, rider 0 0: 0, rider 0 2: 0, count 3: 0, undo: NOT");
    }

    private static void refusedCannotBeUndone() {
        Calls.about("The latest stage(), oats(), shoe(), lead(), turn() is undone");
        Calls.told("inn 1;inn 1;hack 0 0;rider 0 1").run("stage 0: OUTSIDE, oats 0: NOT, shoe 0: NOT, lead 0 0: NOT, turn 0 1: NOT,"
                + " keep 0: 0, seen 1 1 1: 1, book 0 1: 1, count 9: 0, undo: NOT, stage 1: 1, oats 0: 0, shoe 0: NOT, lead 0 1: NOT,"
                + " turn 0 1: NOT, stage 13: OUTSIDE, keep 1: 1, forget: 1, drop 0: 0, ahead 0 60 0: 0, feed 0 40: 0, count 9: 2,"
                + " undo: 1, hour 0 3: 1, undo: 0, count 3: 0, count 7: 0, count 8: 0, undo: NOT, back 1: 1, back 0: 0");
    }

    private static void keptByNumber() {
        Calls.about("All HOURS, RIDERS, the STAGE are kept (k 0, 1): the STAGE. UNKNOWN: no such k");
        Calls.told("inn 1;inn 1;vicious 0 9;rider 0 1").run("keep -1: UNKNOWN, keep 0: 0, keep 2: UNKNOWN, keep LOW: UNKNOWN,"
                + " keep HIGH: UNKNOWN, back 1: NOT, stage 1: 1, lead 0 0: 1, turn 0 0: 1, keep 1: 1, stage 2: 3, undo: 3, count 9: 3,"
                + " back 0: 0, count 9: 0, hour 0 2: 0, hour 0 3: 9, hour 0 4: 0, hour 0 5: 0, rider 0 0: 0, rider 0 1: 1, rider 0 2: 0,"
                + " count 3: 0, undo: NOT, back 1: 1, hour 0 2: 0, hour 0 3: 10, hour 0 4: 1, hour 0 5: 1, rider 0 0: 1, rider 0 1: 0,"
                + " rider 0 2: 1, stage 1: 2, keep 1: 2, back 1: 2, hour 0 3: 9, back 0: 0, hour 0 3: 9, hour 0 4: 0");
    }

    private static void backToWhatWasKept() {
        Calls.about("They are as they were kept, nothing can be undone .. NOT: nothing was kept since the last text");
        Calls.fresh().run("back -1: UNKNOWN, back 0: NOT, back 1: NOT, back 2: UNKNOWN, back LOW: UNKNOWN, back HIGH: UNKNOWN,"
                + " keep 1: 0, back 0: NOT, back 1: 0, stage 1: 1, back 0: NOT, count 9: 1, back 1: 0, count 9: 0, back 1: 0");
        Calls.fresh().run("keep 0: 0, keep 1: 0").write("noon").run("road: NOT, back 0: 0, back 1: 0, erase: 4").tell("inn 1")
                .run("back 0: NOT, back 1: NOT, keep 0: 0, back 0: 0, back 1: NOT");
        Calls eight = Calls.fresh();
        eight.go("stage 1, stage 1, stage 1, stage 1, stage 1, stage 1, stage 1, stage 1, stage 1").run("keep 0: 9, stage 1: 10, back 0: 9,"
                + " undo: NOT, stage 2: 11, undo: 0, undo: NOT, count 3: 9");
    }

    public static void main(String[] args) {
        lameByTen();
        lameByAThrow();
        lameNoMoreAtNought();
        restsToNought();
        riddenDoNotRest();
        eachThirdTime();
        takesAndTires();
        kindsOverOneAnother();
        givenNone();
        givenInOrder();
        nextInnOnHisWay();
        ridersRising();
        nobodyToLead();
        notToBeLed();
        wholeWayHome();
        stagesAtOnce();
        stagesUpTo999();
        oatsByThree();
        shoesOfALameOne();
        ledToAnother();
        turnedToAnother();
        lastEightUndone();
        refusedCannotBeUndone();
        keptByNumber();
        backToWhatWasKept();
        Calls.end("bounds of the day");
    }
}
