/** One test for each promise of the document: ordinary inputs, the edges that it names, and wrong inputs. */
public final class PromiseTests {
    private static final int NONE = -1, UNKNOWN = -2, OUTSIDE = -3, NOT = -4, FULL = -5;
    private static final int NULL = -11, INDEX = -12, EMPTY = -13, CAST = -14, SIZE = -15;
    private static final int LOW = Integer.MIN_VALUE, HIGH = Integer.MAX_VALUE;

    /** Five kinds at the first inns; rider 0 and rider 1 meet on the grey, rider 2 is there. */
    private static final String FIVE_KINDS = "inn 1;inn 3;inn 4;hack 0 2;dawn 0 1;grey 0 0;midnight 0 0;"
            + "vicious 1 5;rider 0 2;rider 2 0;rider 0 0";
    /** Three hours that the stage lames, each a mile of nine from its home. */
    private static final String THREE_LAMED = "inn 1;inn 9;inn 9;inn 9;hack 3 9;hack 2 9;hack 1 9;"
            + "rider 3 3;rider 3 2;rider 2 1;rider 1 0";

    private static int passed = 0;
    private static int failed = 0;

    private static void due(String call, int got, int want) {
        if (got == want) {
            passed++;
        } else {
            failed++;
            System.out.println(call + " answered " + got + ", due is " + want);
        }
    }

    private static void write(OstlerHours day, String text) {
        for (int i = 0; i < text.length(); i++) {
            day.write(text.charAt(i));
        }
    }

    private static void tell(OstlerHours day, String text) {
        write(day, text);
        int clauses = text.split(";").length;
        due("road() of " + text, day.road(), clauses);
    }

    private static OstlerHours told(String text) {
        OstlerHours day = new OstlerHours();
        tell(day, text);
        return day;
    }

    private static void dueHour(OstlerHours day, int hour, int... wants) {
        for (int what = 0; what < wants.length; what++) {
            due("hour(" + hour + ", " + what + ")", day.hour(hour, what), wants[what]);
        }
    }

    private static void dueRider(OstlerHours day, int rider, int... wants) {
        for (int what = 0; what < wants.length; what++) {
            due("rider(" + rider + ", " + what + ")", day.rider(rider, what), wants[what]);
        }
    }

    private static String times(int n, String clause) {
        StringBuilder text = new StringBuilder();
        for (int i = 0; i < n; i++) {
            text.append(i == 0 ? "" : ";").append(clause);
        }
        return text.toString();
    }

    // ---- what is told

    private static void promise1() {
        OstlerHours day = new OstlerHours();
        for (int what = 0; what <= 10; what++) {
            due("new count(" + what + ")", day.count(what), 0);
        }
        due("new inn(0)", day.inn(0), UNKNOWN);
        due("new hour(0, 0)", day.hour(0, 0), UNKNOWN);
        due("new rider(0, 0)", day.rider(0, 0), UNKNOWN);
        for (int b = 0; b < 4; b++) {
            due("new weigh", day.weigh(b, 0), NULL);
        }
        due("new undo()", day.undo(), NOT);
        due("new back(0)", day.back(0), NOT);
        due("new back(1)", day.back(1), NOT);
        due("new kinds()", day.kinds(), 31);
    }

    private static void promise2() {
        OstlerHours day = new OstlerHours();
        due("write(-1)", day.write(-1), OUTSIDE);
        due("write(256)", day.write(256), OUTSIDE);
        due("write(LOW)", day.write(LOW), OUTSIDE);
        due("write(HIGH)", day.write(HIGH), OUTSIDE);
        due("write(0)", day.write(0), 1);
        due("write(255)", day.write(255), 2);
        for (int i = 3; i <= 200; i++) {
            due("write " + i, day.write(' '), i);
        }
        due("write 201", day.write(' '), FULL);
        due("write 201 outside", day.write(256), OUTSIDE);
        due("count(10)", day.count(10), 200);
        due("erase()", day.erase(), 200);
        due("write again", day.write('a'), 1);
    }

    private static void promise3() {
        OstlerHours day = new OstlerHours();
        due("erase() of nothing", day.erase(), 0);
        write(day, "inn 1");
        due("fault()", day.fault(), NONE);
        due("erase()", day.erase(), 5);
        due("fault() of nothing", day.fault(), 0);
        due("count(10)", day.count(10), 0);
        due("erase() again", day.erase(), 0);
        due("road()", day.road(), NOT);
        due("count(0)", day.count(0), 0);
    }

    private static void dueFault(OstlerHours day, String text, int place) {
        write(day, text);
        due("fault() of '" + text + "'", day.fault(), place);
        due("fault() again of '" + text + "'", day.fault(), place);
        due("erase() of '" + text + "'", day.erase(), text.length());
    }

    private static void promise4() {
        String[] good = {"inn 1", "inn 9", "  inn   3  ", "inn1", "inn 1;inn 2", " inn 1 ; inn 2 ", "road", "road;road",
            "inn 1;hack 0 0", "inn 1;vicious 0 9", "inn 1;dawn 0 5", "inn 1;grey 0 1", "inn 1;midnight 0 2",
            "inn 1;rider 0 0", "inn 1;inn 1;rider 1 0", times(6, "inn 1"), times(6, "inn 1") + ";road;inn 1",
            "inn 1;" + times(8, "grey 0 0"), "inn 1;" + times(4, "rider 0 0"), times(20, "road"),
            "inn 1;hack 0 0;road;inn 1;hack0 0"};
        for (String text : good) {
            dueFault(new OstlerHours(), text, NONE);
        }
        String[] atEnd = {"", " ", "   ", "inn", "inn ", "inn 1;", "inn 1; ", "road;", "inn 1;hack", "inn 1;hack 0",
            "inn 1;hack 0 ", "inn 1;rider", "inn 1;rider 0", "inn 1;midnight 0"};
        for (String text : atEnd) {
            dueFault(new OstlerHours(), text, text.length());
        }
        // The letter # stands for nothing: the token behind it is the fault.
        String[] marked = {"#inns 1", "#in 1", "#Inn 1", "#iNn 1", "#innz 1", "#ainn 1", "#xnn 1", "#;", "#; inn 1", "inn 1;#;inn 1",
            "inn 1 #1", "inn 1#,inn 1", "inn #0", "inn #10", "inn #01", "inn #x", "inn #;", "inn#\t1", "inn #-1", "#1",
            "road #1", "road #road", "hack #0 1", "inn 1;hack #1 1", "inn 1;hack 0 #10", "inn 1;hack 0 #a", "inn 1;hack #00",
            "inn 1;hack 0 0 #0", "rider #0 0", "inn 1;rider 0 #1", "inn 1;rider #1 0", "inn 1;road;grey #0 0",
            "inn 1;hack 0#;0", "#noon 3", "inn 1;vicious #9 0", "inn#.", "#\u00e9inn 1", "#.", "inn 1#\u0000",
            times(6, "inn 1") + ";#inn 1", times(6, "inn 1") + ";#inn", "inn 1;" + times(8, "hack 0 0") + ";#dawn 0 0",
            "inn 1;" + times(4, "rider 0 0") + "; #rider 0 0", times(20, "road") + "#;road", times(20, "road") + "#;"};
        for (String text : marked) {
            dueFault(new OstlerHours(), text.replace("#", ""), text.indexOf('#'));
        }
        OstlerHours day = told(times(6, "inn 1") + ";grey 5 0");
        dueFault(day, "inn 1", 0);
        dueFault(day, "rider 5 0", NONE);
        dueFault(day, "rider 6 0", 6);
        dueFault(day, "road;rider 5 0", 11);
        dueFault(day, times(8, "hack 0 0"), 63);
        due("count(1), as fault() changes nothing", day.count(1), 1);
    }

    private static void promise5() {
        OstlerHours day = new OstlerHours();
        due("road() of nothing", day.road(), NOT);
        write(day, "inn 1;inn");
        due("road() of a fault", day.road(), NOT);
        due("its text stays", day.count(10), 9);
        due("its inns", day.count(0), 0);
        write(day, " 2;hack 1 7;rider 1 0");
        due("road()", day.road(), 4);
        due("its text", day.count(10), 0);
        due("inns", day.count(0), 2);
        dueHour(day, 0, 0, 1, 1, 7, 0, 0);
        dueRider(day, 0, 1, 0, 0);
        useAll(day);
        write(day, "road;oops");
        due("road() of a fault", day.road(), NOT);
        due("stage, as nothing changed", day.count(3), 2);
        due("seen, as nothing changed", day.count(7), 1);
        due("books, as nothing changed", day.count(8), 2);
        due("undo, as nothing changed", day.count(9), 3);
        day.erase();
        tell(day, "inn 5;grey 2 0");
        dueHour(day, 0, 0, 1, 1, 7, 0, 0);
        dueHour(day, 1, 3, 2, 2, 0, 0, 0);
        dueRider(day, 0, 1, 0, 0);
        due("stage", day.count(3), 0);
        due("seen", day.count(7), 0);
        due("books", day.count(8), 0);
        due("undo", day.undo(), NOT);
        due("back(0)", day.back(0), NOT);
        due("inn(2)", day.inn(2), 5);
        day.turn(0, 1);
        OstlerHours lamed = told(THREE_LAMED);
        lamed.stage(1);
        tell(lamed, "inn 2");
        due("lame behind a text", lamed.count(4), 0);
        due("clocks behind a text", lamed.count(6), 0);
        dueHour(lamed, 0, 0, 3, 3, 9, 0, 0);
        tell(day, "inn 1;road;inn 4");
        due("inns", day.count(0), 1);
        due("hours", day.count(1), 0);
        due("riders", day.count(2), 0);
        due("inn(0)", day.inn(0), 4);
    }

    private static void useAll(OstlerHours day) {
        due("stage(2)", day.stage(2), 2);
        due("oats(0)", day.oats(0), 4);
        due("turn(0, 1)", day.turn(0, 1), 0);
        day.keep(0);
        day.seen(1, 1, 1);
        day.book(0, 1);
        day.book(3, 0);
    }

    private static void promise6() {
        OstlerHours day = told(FIVE_KINDS);
        dueHour(day, 0, 0, 0, 0, 2, 0, 0);
        dueHour(day, 1, 2, 0, 0, 1, 0, 0);
        dueHour(day, 2, 3, 0, 0, 0, 0, 0);
        dueHour(day, 3, 4, 0, 0, 0, 0, 0);
        dueHour(day, 4, 1, 1, 1, 5, 0, 0);
        due("hour(5, 0)", day.hour(5, 0), UNKNOWN);
        due("hour(5, 6)", day.hour(5, 6), UNKNOWN);
        due("hour(-1, 0)", day.hour(-1, 0), UNKNOWN);
        due("hour(LOW, 0)", day.hour(LOW, 0), UNKNOWN);
        due("hour(4, 6)", day.hour(4, 6), OUTSIDE);
        due("hour(4, -1)", day.hour(4, -1), OUTSIDE);
        due("hour(4, HIGH)", day.hour(4, HIGH), OUTSIDE);
        day.stage(1);
        dueHour(day, 2, 3, 0, 1, 0, 0, 1);
        OstlerHours lamed = told(THREE_LAMED);
        lamed.stage(1);
        dueHour(lamed, 0, 0, 3, 2, 10, 1, 1);
    }

    private static void promise7() {
        OstlerHours day = told(FIVE_KINDS);
        dueRider(day, 0, 0, 2, 0);
        dueRider(day, 1, 2, 0, 0);
        dueRider(day, 2, 0, 0, 0);
        day.stage(1);
        dueRider(day, 0, 1, 2, 6);
        dueRider(day, 1, 2, 0, 1);
        due("rider(3, 0)", day.rider(3, 0), UNKNOWN);
        due("rider(3, 3)", day.rider(3, 3), UNKNOWN);
        due("rider(-1, 0)", day.rider(-1, 0), UNKNOWN);
        due("rider(2, 3)", day.rider(2, 3), OUTSIDE);
        due("rider(2, -1)", day.rider(2, -1), OUTSIDE);
    }

    private static void promise8() {
        OstlerHours day = told("inn 7;inn 3;inn 9");
        due("inn(0)", day.inn(0), 7);
        due("inn(1)", day.inn(1), 3);
        due("inn(2)", day.inn(2), 9);
        due("inn(3)", day.inn(3), UNKNOWN);
        due("inn(-1)", day.inn(-1), UNKNOWN);
        due("inn(HIGH)", day.inn(HIGH), UNKNOWN);
    }

    private static void promise9() {
        OstlerHours day = told("inn 1;hack 0 0;vicious 0 0;dawn 0 0;grey 0 0;midnight 0 0");
        int[] takes = {5, 5, 3, 10, 10};
        String[] over = {"110000", "111000", "110100", "100010", "100011"};
        for (int h = 0; h < 5; h++) {
            for (int kind = 0; kind < 6; kind++) {
                int want = over[h].charAt(kind) == '1' ? takes[h] : NOT;
                due("as(" + h + ", " + kind + ")", day.as(h, kind), want);
            }
        }
        due("as(5, 0)", day.as(5, 0), UNKNOWN);
        due("as(5, 9)", day.as(5, 9), UNKNOWN);
        due("as(-1, 0)", day.as(-1, 0), UNKNOWN);
        due("as(0, 6)", day.as(0, 6), OUTSIDE);
        due("as(0, -1)", day.as(0, -1), OUTSIDE);
    }

    // ---- what is done

    private static void promise10() {
        stagesOfFiveKinds();
        stagesOfOneVicious();
        stagesOfTheLed();
        stagesOfOtherKinds();
        stagesOfAFullRoad();
        OstlerHours day = new OstlerHours();
        due("stage(0)", day.stage(0), OUTSIDE);
        due("stage(13)", day.stage(13), OUTSIDE);
        due("stage(-1)", day.stage(-1), OUTSIDE);
        due("stage(HIGH)", day.stage(HIGH), OUTSIDE);
        for (int i = 1; i <= 83; i++) {
            due("stage(12)", day.stage(12), 12 * i);
        }
        due("stage(4) at 996", day.stage(4), FULL);
        due("stage(13) at 996", day.stage(13), OUTSIDE);
        due("stage, as nothing changed", day.count(3), 996);
        due("stage(3) at 996", day.stage(3), 999);
        due("stage(1) at 999", day.stage(1), FULL);
        due("undo()", day.undo(), 7);
        due("stage again", day.count(3), 996);
    }

    private static void stagesOfFiveKinds() {
        OstlerHours day = told(FIVE_KINDS);
        due("stage(1)", day.stage(1), 1);
        dueHour(day, 0, 0, 0, 0, 0, 0, 0);
        dueHour(day, 1, 2, 0, 0, 0, 0, 0);
        dueHour(day, 2, 3, 0, 1, 0, 0, 1);
        dueHour(day, 4, 1, 1, 1, 2, 0, 0);
        due("stage(1)", day.stage(1), 2);
        dueRider(day, 0, 2, 2, 14);
        dueRider(day, 1, 2, 0, 2);
        dueHour(day, 2, 3, 0, 2, 0, 0, 2);
        due("stage(1)", day.stage(1), 3);
        dueRider(day, 1, 1, 0, 10);
        due("stage(1)", day.stage(1), 4);
        dueRider(day, 1, 0, 0, 16);
        dueHour(day, 2, 3, 0, 0, 0, 0, 4);
        dueHour(day, 4, 1, 1, 1, 0, 0, 0);
        due("clocks", day.count(6), 30);
        due("there", day.count(5), 7);
    }

    private static void stagesOfOneVicious() {
        OstlerHours day = told("inn 1;inn 1;inn 1;inn 1;inn 1;inn 1;vicious 0 0;rider 0 5");
        day.stage(2);
        dueHour(day, 0, 1, 0, 2, 2, 0, 2);
        dueRider(day, 0, 2, 5, 2);
        day.stage(1);
        dueHour(day, 0, 1, 0, 2, 3, 0, 3);
        dueRider(day, 0, 2, 5, 4);
        day.stage(3);
        dueHour(day, 0, 1, 0, 4, 6, 0, 6);
        dueRider(day, 0, 4, 5, 8);
        day.turn(0, 4);
        day.stage(1);
        dueHour(day, 0, 1, 0, 3, 3, 0, 6);
        OstlerHours weary = told("inn 1;inn 1;inn 6;inn 1;vicious 0 2;rider 0 3");
        weary.stage(2);
        dueHour(weary, 0, 1, 0, 2, 9, 0, 2);
        weary.stage(1);
        dueHour(weary, 0, 1, 0, 2, 10, 1, 3);
        dueRider(weary, 0, 2, 3, 9);
        weary.stage(9);
        dueHour(weary, 0, 1, 0, 2, 1, 1, 3);
        weary.stage(1);
        dueHour(weary, 0, 1, 0, 2, 0, 0, 3);
        due("given(0)", weary.given(0), 0);
    }

    private static void stagesOfTheLed() {
        OstlerHours day = told("inn 1;inn 1;inn 1;hack 2 0;hack 2 0;hack 0 0;hack 0 0;midnight 1 0");
        day.lead(0, 0);
        day.lead(1, 1);
        day.lead(2, 2);
        day.lead(3, 2);
        day.stage(1);
        dueHour(day, 0, 0, 2, 1);
        dueHour(day, 1, 0, 2, 2);
        dueHour(day, 2, 0, 0, 1);
        dueHour(day, 3, 0, 0, 2);
        dueHour(day, 4, 4, 1, 1);
        day.stage(1);
        dueHour(day, 0, 0, 2, 2);
        dueHour(day, 2, 0, 0, 1);
        dueHour(day, 3, 0, 0, 1);
        day.stage(2);
        dueHour(day, 2, 0, 0, 0);
        dueHour(day, 3, 0, 0, 0);
        OstlerHours lamed = told(THREE_LAMED);
        lamed.stage(4);
        dueHour(lamed, 0, 0, 3, 2, 7, 1, 1);
        lamed.stage(7);
        dueHour(lamed, 0, 0, 3, 2, 0, 0, 1);
        lamed.stage(1);
        dueHour(lamed, 0, 0, 3, 3, 0, 0, 1);
    }

    private static void stagesOfOtherKinds() {
        OstlerHours day = told("inn 1;inn 4;dawn 0 0;rider 0 1;rider 1 0;midnight 1 0;dawn 0 2;midnight 0 9;grey 0 9");
        day.stage(1);
        dueHour(day, 0, 2, 0, 1, 8, 0, 1);
        dueRider(day, 0, 1, 1, 3);
        dueHour(day, 1, 4, 1, 0, 1, 0, 1);
        dueRider(day, 1, 0, 0, 8);
        dueHour(day, 2, 2, 0, 0, 0, 0, 0);
        dueHour(day, 3, 4, 0, 0, 8, 0, 0);
        dueHour(day, 4, 3, 0, 0, 8, 0, 0);
        OstlerHours weary = told("inn 1;inn 4;dawn 0 2;midnight 0 9;grey 0 9;rider 0 1;rider 0 1;rider 0 1");
        weary.stage(1);
        dueHour(weary, 0, 2, 0, 1, 10, 1, 1);
        dueHour(weary, 1, 4, 0, 1, 10, 1, 1);
        dueHour(weary, 2, 3, 0, 1, 9, 0, 1);
        due("lame", weary.count(4), 3);
    }

    private static void stagesOfAFullRoad() {
        OstlerHours day = told(times(6, "inn 2") + ";" + times(8, "hack 5 9") + ";" + times(4, "rider 5 0"));
        due("match of a full road", day.match(NONE), 8);
        due("match(3) of a full road", day.match(3), 3);
        due("fastest(3) of a full road", day.fastest(3), NONE);
        due("feed(3, 1) of a full road", day.feed(3, 1), NONE);
        due("ahead(7, 1, 1) of a full road", day.ahead(7, 1, 1), 7);
        due("stage(1)", day.stage(1), 1);
        due("lame", day.count(4), 15);
        due("clocks", day.count(6), 8);
        dueHour(day, 3, 0, 5, 4, 10, 1, 1);
        dueHour(day, 4, 0, 5, 5, 7, 0, 0);
        dueHour(day, 7, 0, 5, 5, 7, 0, 0);
        dueRider(day, 3, 4, 0, 2);
        due("oats(7)", day.oats(7), 4);
        day.stage(12);
        due("undo()", day.undo(), 2);
        dueHour(day, 7, 0, 5, 5, 4, 0, 0);
    }

    private static void promise11() {
        OstlerHours day = told("inn 1;inn 1;hack 0 9;hack 0 3;hack 0 0;hack 1 9;rider 1 0");
        due("oats(0)", day.oats(0), 6);
        due("oats(0)", day.oats(0), 3);
        due("oats(1)", day.oats(1), 0);
        due("oats(1) by 0", day.oats(1), NOT);
        due("oats(2) by 0", day.oats(2), NOT);
        due("oats(4)", day.oats(4), UNKNOWN);
        due("oats(-1)", day.oats(-1), UNKNOWN);
        due("undo count", day.count(9), 3);
        day.stage(1);
        dueHour(day, 3, 0, 1, 0, 10, 1, 1);
        due("oats(3)", day.oats(3), 7);
        due("oats(3)", day.oats(3), 4);
        due("oats(3)", day.oats(3), 1);
        due("lame yet", day.hour(3, 4), 1);
        due("oats(3)", day.oats(3), 0);
        due("lame no more", day.hour(3, 4), 0);
    }

    private static void promise12() {
        OstlerHours day = told(THREE_LAMED);
        due("shoe(0) not lame", day.shoe(0), NOT);
        due("shoe(3)", day.shoe(3), UNKNOWN);
        due("shoe(-1)", day.shoe(-1), UNKNOWN);
        day.stage(1);
        due("shoe(0)", day.shoe(0), 10);
        dueHour(day, 0, 0, 3, 2, 5, 0, 1);
        due("shoe(0) again", day.shoe(0), NOT);
        due("lame", day.count(4), 6);
        day.stage(8);
        due("shoe(1)", day.shoe(1), 2);
        dueHour(day, 1, 0, 2, 1, 5, 0, 1);
    }

    private static void promise13() {
        OstlerHours day = told(FIVE_KINDS);
        due("lead(0, 2)", day.lead(0, 2), 0);
        dueHour(day, 0, 0, 0, 2, 2, 0, 0);
        due("lead(0, 2) again", day.lead(0, 2), NOT);
        due("lead(0, 1)", day.lead(0, 1), 2);
        due("lead(0, 3)", day.lead(0, 3), UNKNOWN);
        due("lead(0, -1)", day.lead(0, -1), UNKNOWN);
        due("lead(5, 0)", day.lead(5, 0), UNKNOWN);
        due("lead(-1, 0)", day.lead(-1, 0), UNKNOWN);
        due("undo count", day.count(9), 2);
        OstlerHours lamed = told(THREE_LAMED);
        lamed.stage(1);
        due("lead of a lame one", lamed.lead(0, 0), 2);
    }

    private static void promise14() {
        OstlerHours day = told(FIVE_KINDS);
        due("turn(0, 2)", day.turn(0, 2), NOT);
        due("turn(0, 0)", day.turn(0, 0), 2);
        due("there", day.count(5), 5);
        due("turn(2, 1)", day.turn(2, 1), 0);
        dueRider(day, 2, 0, 1, 0);
        due("turn(0, 3)", day.turn(0, 3), UNKNOWN);
        due("turn(0, -1)", day.turn(0, -1), UNKNOWN);
        due("turn(3, 0)", day.turn(3, 0), UNKNOWN);
        due("turn(-1, 0)", day.turn(-1, 0), UNKNOWN);
        due("undo count", day.count(9), 2);
    }

    private static void promise15() {
        OstlerHours day = told(THREE_LAMED);
        due("undo() of nothing", day.undo(), NOT);
        day.stage(3);
        day.shoe(0);
        day.oats(1);
        day.lead(0, 0);
        day.turn(0, 1);
        due("undo count", day.count(9), 5);
        due("undo turn", day.undo(), 4);
        dueRider(day, 0, 3, 3, 0);
        due("undo lead", day.undo(), 3);
        dueHour(day, 0, 0, 3, 2, 5, 0, 1);
        due("undo oats", day.undo(), 2);
        due("tired again", day.hour(1, 3), 8);
        due("undo shoe", day.undo(), 1);
        dueHour(day, 0, 0, 3, 2, 8, 1, 1);
        due("undo stage", day.undo(), 0);
        dueHour(day, 0, 0, 3, 3, 9, 0, 0);
        dueRider(day, 1, 3, 2, 0);
        due("stage", day.count(3), 0);
        due("undo", day.undo(), NOT);
        undoOfMoreThanEight();
    }

    private static void undoOfMoreThanEight() {
        OstlerHours day = new OstlerHours();
        for (int i = 1; i <= 11; i++) {
            day.stage(i);
            due("undo count", day.count(9), Math.min(i, 8));
        }
        int stage = 66;
        for (int i = 11; i >= 4; i--) {
            due("undo()", day.undo(), i - 4);
            stage -= i;
            due("stage", day.count(3), stage);
        }
        due("undo of the ninth", day.undo(), NOT);
        due("stage", day.count(3), 6);
        day.stage(5);
        due("undo()", day.undo(), 0);
        due("stage", day.count(3), 6);
    }

    private static void promise16() {
        OstlerHours day = told(FIVE_KINDS);
        due("keep(2)", day.keep(2), UNKNOWN);
        due("keep(-1)", day.keep(-1), UNKNOWN);
        due("keep(0)", day.keep(0), 0);
        day.stage(3);
        due("keep(1)", day.keep(1), 3);
        due("undo count stays", day.count(9), 1);
        due("keep(0) anew", day.keep(0), 3);
        day.stage(1);
        due("back(0)", day.back(0), 3);
        dueRider(day, 1, 1, 0, 10);
    }

    private static void promise17() {
        OstlerHours day = told(THREE_LAMED);
        due("back(2)", day.back(2), UNKNOWN);
        due("back(-1)", day.back(-1), UNKNOWN);
        due("back(0)", day.back(0), NOT);
        day.keep(0);
        due("back(1)", day.back(1), NOT);
        day.stage(2);
        day.lead(0, 0);
        day.turn(0, 0);
        due("back(0)", day.back(0), 0);
        dueHour(day, 0, 0, 3, 3, 9, 0, 0);
        dueRider(day, 0, 3, 3, 0);
        dueRider(day, 1, 3, 2, 0);
        due("undo", day.undo(), NOT);
        day.stage(2);
        due("back(0) again", day.back(0), 0);
        due("lame", day.count(4), 0);
        day.keep(1);
        tell(day, "road");
        due("back(0) behind a text", day.back(0), NOT);
        due("back(1) behind a text", day.back(1), NOT);
    }

    // ---- foretold

    private static void promise18() {
        OstlerHours day = told(FIVE_KINDS);
        due("given(0)", day.given(0), 2);
        due("given(1), none at his inn", day.given(1), NONE);
        due("given(2), who is there", day.given(2), NONE);
        due("given(3)", day.given(3), UNKNOWN);
        due("given(-1)", day.given(-1), UNKNOWN);
        day.turn(2, 1);
        due("given(2)", day.given(2), 2);
        day.lead(2, 1);
        due("given(0), the less tired", day.given(0), 1);
        day.lead(1, 1);
        due("given(0), the willing", day.given(0), 0);
        day.lead(0, 1);
        due("given(0), the midnight", day.given(0), 3);
        day.stage(1);
        due("given(2), one that was led home", day.given(2), 0);
        OstlerHours like = told("inn 1;inn 9;hack 1 0;dawn 0 3;hack 0 3;rider 0 1");
        due("given(0), the least number", like.given(0), 1);
        OstlerHours unwilling = told("inn 1;inn 9;midnight 0 0;hack 0 9;rider 0 1");
        due("given(0), the tired ahead of the unwilling", unwilling.given(0), 1);
        OstlerHours lamed = told(THREE_LAMED);
        lamed.stage(1);
        lamed.turn(1, 0);
        due("given(1), the lame not", lamed.given(1), NONE);
        OstlerHours again = told("inn 1;inn 1;inn 1;grey 0 0;rider 0 2");
        again.stage(1);
        due("given(0), ridden in the stage ahead", again.given(0), 0);
    }

    private static void promise19() {
        OstlerHours day = told(THREE_LAMED);
        int[][] wants = {{0, 3, 9, 0}, {1, 2, 10, 1}, {4, 2, 7, 1}, {10, 2, 1, 1}, {11, 2, 0, 0}, {12, 3, 0, 0},
            {60, 3, 0, 0}};
        for (int[] want : wants) {
            for (int what = 0; what < 3; what++) {
                due("ahead(0, " + want[0] + ", " + what + ")", day.ahead(0, want[0], what), want[what + 1]);
            }
        }
        due("stage, as nothing changed", day.count(3), 0);
        dueHour(day, 0, 0, 3, 3, 9, 0, 0);
        due("ahead(3, 0, 0)", day.ahead(3, 0, 0), UNKNOWN);
        due("ahead(3, 61, 0)", day.ahead(3, 61, 0), UNKNOWN);
        due("ahead(-1, 0, 0)", day.ahead(-1, 0, 0), UNKNOWN);
        due("ahead(0, 61, 0)", day.ahead(0, 61, 0), OUTSIDE);
        due("ahead(0, -1, 0)", day.ahead(0, -1, 0), OUTSIDE);
        due("ahead(0, 0, 3)", day.ahead(0, 0, 3), OUTSIDE);
        due("ahead(0, 0, -1)", day.ahead(0, 0, -1), OUTSIDE);
    }

    private static void promise20() {
        OstlerHours day = told(FIVE_KINDS);
        int[][] wants = {{2, 14}, {4, 16}, {0, 0}};
        for (int r = 0; r < 3; r++) {
            due("comes(" + r + ", 0)", day.comes(r, 0), wants[r][0]);
            due("comes(" + r + ", 1)", day.comes(r, 1), wants[r][1]);
        }
        due("stage, as nothing changed", day.count(3), 0);
        day.stage(2);
        due("comes(0, 0)", day.comes(0, 0), 0);
        due("comes(0, 1)", day.comes(0, 1), 14);
        due("comes(1, 0)", day.comes(1, 0), 2);
        due("comes(3, 0)", day.comes(3, 0), UNKNOWN);
        due("comes(3, 2)", day.comes(3, 2), UNKNOWN);
        due("comes(-1, 0)", day.comes(-1, 0), UNKNOWN);
        due("comes(0, 2)", day.comes(0, 2), OUTSIDE);
        due("comes(0, -1)", day.comes(0, -1), OUTSIDE);
        OstlerHours never = told("inn 1;inn 1;rider 0 1");
        due("comes never", never.comes(0, 0), NONE);
        due("comes never", never.comes(0, 1), NONE);
        comesAtTheLast();
    }

    /** Each leg of nine miles lames the one dawn for ten stages, and it is led home for each next rider. */
    private static void comesAtTheLast() {
        OstlerHours day = told("inn 1;inn 9;inn 9;dawn 0 5;rider 0 2;rider 0 2;rider 0 2");
        int[][] wants = {{12, 20}, {36, 44}, {60, 68}};
        for (int r = 0; r < 3; r++) {
            due("comes(" + r + ", 0) by one dawn", day.comes(r, 0), wants[r][0]);
            due("comes(" + r + ", 1) by one dawn", day.comes(r, 1), wants[r][1]);
        }
        day.lead(0, 1);
        due("comes(1, 0) a stage later", day.comes(1, 0), 37);
        due("comes(2, 0) at 61", day.comes(2, 0), NONE);
        due("comes(2, 1) at 61", day.comes(2, 1), NONE);
        day.stage(1);
        due("comes(2, 0) at 60", day.comes(2, 0), 60);
        due("comes(2, 1) at 60", day.comes(2, 1), 69);
    }

    private static void promise21() {
        OstlerHours day = told("inn 1;inn 5;inn 9;hack 0 9;dawn 0 0;grey 0 0;rider 0 1;rider 0 2;rider 1 1");
        due("match(NONE)", day.match(NONE), 8);
        due("match(0)", day.match(0), 0);
        due("match(1)", day.match(1), 1);
        due("match(2), who is there", day.match(2), NONE);
        due("match(3)", day.match(3), UNKNOWN);
        due("match(-2)", day.match(-2), UNKNOWN);
        due("match(HIGH)", day.match(HIGH), UNKNOWN);
        OstlerHours ways = told("inn 1;inn 1;inn 9;dawn 1 0;hack 1 0;rider 1 0;rider 1 2");
        due("match both ways", ways.match(NONE), 6);
        due("match(0) of both ways", ways.match(0), 1);
        due("match(1) of both ways", ways.match(1), 0);
        OstlerHours few = told("inn 1;inn 2;hack 0 0;rider 0 1;rider 0 1");
        due("match of too few", few.match(NONE), NONE);
        due("match(0) of too few", few.match(0), NONE);
        few.turn(1, 0);
        due("match of one", few.match(NONE), 2);
        due("match(1) of one", few.match(1), NONE);
        few.turn(0, 0);
        due("match of nobody", few.match(NONE), 0);
        due("match(0) of nobody", few.match(0), NONE);
        OstlerHours lamed = told(THREE_LAMED);
        due("match of three", lamed.match(NONE), 27);
        due("match(3) of three", lamed.match(3), 2);
        lamed.stage(1);
        lamed.turn(1, 0);
        due("match of a lame one", lamed.match(NONE), NONE);
    }

    private static void promise22() {
        OstlerHours day = told("inn 1;inn 4;inn 6;hack 0 0;dawn 0 1;grey 1 9;dawn 1 9;rider 0 2;rider 2 0;rider 1 1");
        due("fastest(0)", day.fastest(0), 15);
        due("fastest(1)", day.fastest(1), NONE);
        due("fastest(2), who is there", day.fastest(2), 0);
        due("fastest(3)", day.fastest(3), UNKNOWN);
        due("fastest(-1)", day.fastest(-1), UNKNOWN);
        day.lead(0, 2);
        due("fastest(1)", day.fastest(1), 14);
        OstlerHours weary = told("inn 1;inn 4;hack 0 6;dawn 0 2;midnight 0 9;grey 0 9;rider 0 1");
        due("fastest, not lamed by it", weary.fastest(0), 8);
        weary.lead(3, 1);
        due("fastest, the midnight lamed by it", weary.fastest(0), NONE);
        weary.oats(0);
        due("fastest, the hack fed", weary.fastest(0), 4);
        OstlerHours vicious = told("inn 1;inn 1;inn 1;inn 1;vicious 0 0;rider 0 3;vicious 2 0");
        vicious.stage(2);
        due("fastest, throws do not count", vicious.fastest(0), 1);
        OstlerHours lamed = told("inn 1;inn 1;hack 0 9;rider 0 1");
        lamed.stage(1);
        lamed.oats(0);
        lamed.turn(0, 0);
        due("fastest, the lame not", lamed.fastest(0), NONE);
    }

    private static void promise23() {
        OstlerHours day = told("inn 1;inn 1;inn 1;hack 0 9;rider 0 2;hack 0 9");
        day.lead(1, 2);
        due("feed(0, 1)", day.feed(0, 1), NONE);
        due("feed(0, 2)", day.feed(0, 2), 0);
        OstlerHours one = told("inn 1;inn 1;inn 1;hack 0 9;rider 0 2");
        due("comes", one.comes(0, 0), 12);
        due("feed(0, 1)", one.feed(0, 1), NONE);
        due("feed(0, 2)", one.feed(0, 2), 1);
        due("feed(0, 11)", one.feed(0, 11), 1);
        due("feed(0, 12)", one.feed(0, 12), 0);
        due("feed(0, 40)", one.feed(0, 40), 0);
        due("feed(0, 41)", one.feed(0, 41), OUTSIDE);
        due("feed(0, 0)", one.feed(0, 0), OUTSIDE);
        due("feed(1, 0)", one.feed(1, 0), UNKNOWN);
        due("feed(-1, 1)", one.feed(-1, 1), UNKNOWN);
        one.turn(0, 0);
        due("feed of one who is there", one.feed(0, 1), 0);
        OstlerHours three = told(THREE_LAMED);
        three.stage(8);
        three.lead(0, 3);
        three.lead(1, 2);
        three.lead(2, 1);
        three.turn(0, 0);
        int[] sets = {NONE, NONE, 3, 1, 1, 0};
        for (int n = 1; n <= 6; n++) {
            due("feed(0, " + n + ") of three", three.feed(0, n), sets[n - 1]);
        }
        dueHour(three, 0, 0, 3, 3, 3, 1, 1);
        feedOfALittleTired();
        feedOfThree();
        feedOfFour();
    }

    private static void feedOfALittleTired() {
        OstlerHours day = told("inn 1;inn 9;hack 1 9;rider 1 0;rider 1 0");
        day.stage(10);
        day.lead(0, 1);
        due("tired", day.hour(0, 3), 1);
        due("feed(1, 1) of a little tired", day.feed(1, 1), 1);
        due("feed(1, 2) of a little tired", day.feed(1, 2), 0);
    }

    /** Dawns, that each leg lames anew: each of them is fed once for its leg, or waited for. */
    private static void feedOfThree() {
        OstlerHours day = told(THREE_LAMED.replace("hack", "dawn"));
        day.stage(8);
        day.lead(0, 3);
        day.lead(1, 2);
        day.lead(2, 1);
        day.turn(0, 0);
        int[] sets = {NONE, NONE, 7, 3, 1, 0};
        for (int n = 1; n <= 6; n++) {
            due("feed(0, " + n + ") of three dawns", day.feed(0, n), sets[n - 1]);
        }
    }

    private static void feedOfFour() {
        OstlerHours day = told("inn 1;inn 9;inn 9;inn 9;inn 9;inn 9;dawn 4 9;dawn 3 9;dawn 2 9;dawn 1 9;"
                + "rider 5 4;rider 3 2;rider 2 1;rider 1 0");
        day.lead(0, 5);
        day.stage(7);
        day.lead(1, 3);
        day.lead(2, 2);
        day.lead(3, 1);
        day.oats(0);
        day.turn(0, 0);
        due("lame", day.count(4), 15);
        int[] sets = {NONE, NONE, NONE, NONE, 6, 2, 0};
        for (int n = 1; n <= 7; n++) {
            due("feed(0, " + n + ") of four dawns", day.feed(0, n), sets[n - 1]);
        }
    }

    private static void promise24() {
        int[][] wants = {{0, 0, 0, 1, 1}, {0, 10, 0, 1, 1}, {0, 10, 1, 0, 1}, {1, 3, 1, 3, 10}, {2, 5, 1, 3, 4},
            {2, 5, 2, 1, 4}, {9, 5, 9, 1, 512}, {9, 10, 9, 1, 1}, {9, 0, 0, 1, 1}, {9, 0, 1, 0, 1}, {3, 2, 2, 13, 125},
            {9, 1, 9, 1, 1000000000}, {9, 9, 9, 387420489, 1000000000}, {9, 3, 4, 135170451, 500000000},
            {3, 5, 4, 0, 1}, {4, 4, 1, 544, 625}, {9, 10, 0, 1, 1}, {9, 3, 0, 1, 1}};
        OstlerHours day = new OstlerHours();
        for (int[] w : wants) {
            due("falls above " + w[0] + " " + w[1] + " " + w[2], day.falls(w[0], w[1], w[2], 0), w[3]);
            due("falls below " + w[0] + " " + w[1] + " " + w[2], day.falls(w[0], w[1], w[2], 1), w[4]);
        }
        int[][] wrong = {{10, 0, 0, 0}, {-1, 0, 0, 0}, {0, 11, 0, 0}, {0, -1, 0, 0}, {0, 0, 10, 0}, {0, 0, -1, 0},
            {0, 0, 0, 2}, {0, 0, 0, -1}, {HIGH, 0, 0, 0}, {0, LOW, 0, 0}};
        for (int[] w : wrong) {
            due("falls outside", day.falls(w[0], w[1], w[2], w[3]), OUTSIDE);
        }
    }

    // ---- what was seen

    private static void promise25() {
        OstlerHours day = new OstlerHours();
        int[][] wrong = {{0, 0, 0}, {10, 0, 0}, {1, -1, 0}, {1, 21, 0}, {1, 0, -1}, {1, 0, 21}, {LOW, 0, 0}};
        for (int[] w : wrong) {
            due("seen outside", day.seen(w[0], w[1], w[2]), OUTSIDE);
        }
        due("seen", day.seen(1, 0, 0), 1);
        due("seen", day.seen(9, 20, 20), 2);
        for (int i = 3; i <= 6; i++) {
            due("seen", day.seen(5, 5, 5), i);
        }
        due("seen a seventh", day.seen(5, 5, 5), FULL);
        due("seen a seventh outside", day.seen(0, 5, 5), OUTSIDE);
        due("count(7)", day.count(7), 6);
    }

    private static void promise26() {
        OstlerHours day = new OstlerHours();
        due("forget() of nothing", day.forget(), 0);
        day.seen(1, 0, 0);
        day.seen(1, 1, 1);
        due("kinds()", day.kinds(), 0);
        due("forget()", day.forget(), 2);
        due("kinds()", day.kinds(), 31);
        due("count(7)", day.count(7), 0);
    }

    private static void dueKinds(int m, int t, int d, int kinds, int ask) {
        OstlerHours day = new OstlerHours();
        day.seen(m, t, d);
        due("kinds() of " + m + " " + t + " " + d, day.kinds(), kinds);
        due("ask() of " + m + " " + t + " " + d, day.ask(), ask);
    }

    private static void promise27() {
        due("kinds() of nothing", new OstlerHours().kinds(), 31);
        dueKinds(5, 5, 5, 3, NONE);
        dueKinds(2, 2, 4, 4, NONE);
        dueKinds(9, 5, 18, 4, NONE);
        dueKinds(1, 1, 2, 4, NONE);
        dueKinds(7, 14, 0, 8, NONE);
        dueKinds(7, 14, 1, 16, NONE);
        dueKinds(7, 14, 2, 0, NONE);
        dueKinds(7, 7, 8, 0, NONE);
        OstlerHours day = new OstlerHours();
        day.seen(5, 5, 5);
        day.seen(9, 9, 9);
        due("kinds()", day.kinds(), 3);
        day.seen(9, 18, 0);
        due("kinds()", day.kinds(), 0);
    }

    private static void promise28() {
        OstlerHours day = new OstlerHours();
        due("ask() of all", day.ask(), 1);
        day.seen(1, 1, 1);
        due("ask() of two that are alike", day.ask(), NONE);
        day.seen(1, 2, 0);
        due("ask() of none", day.ask(), NONE);
        day.forget();
        due("ask() of all again", day.ask(), 1);
    }

    // ---- books

    private static void promise29() {
        OstlerHours day = new OstlerHours();
        due("book(0, 0)", day.book(0, 0), 0);
        due("book(3, 10)", day.book(3, 10), 10);
        due("book(1, 11)", day.book(1, 11), OUTSIDE);
        due("book(1, HIGH)", day.book(1, HIGH), OUTSIDE);
        due("book(1, -1)", day.book(1, -1), SIZE);
        due("book(1, LOW)", day.book(1, LOW), SIZE);
        due("book(4, 1)", day.book(4, 1), UNKNOWN);
        due("book(-1, 11)", day.book(-1, 11), UNKNOWN);
        due("book(-1, -1)", day.book(-1, -1), UNKNOWN);
        due("books there", day.count(8), 2);
        day.enter(3, 9, 0, 5);
        day.enter(3, 0, 0, 5);
        due("read(3, 9, 0)", day.read(3, 9, 0), 50005);
        due("book(3, -1)", day.book(3, -1), SIZE);
        due("read(3, 9, 0) yet", day.read(3, 9, 0), 50005);
        due("book(3, 10) anew", day.book(3, 10), 10);
        due("read(3, 9, 0) of the new one", day.read(3, 9, 0), EMPTY);
        due("read(3, 0, 0) of the new one", day.read(3, 0, 0), EMPTY);
        due("book(3, 2) anew", day.book(3, 2), 2);
        due("read(3, 2, 0) of the new one", day.read(3, 2, 0), INDEX);
    }

    private static void promise30() {
        OstlerHours day = told("inn 1;hack 0 0;hack 0 0");
        due("enter of a missing one", day.enter(0, 0, 0, 0), NULL);
        due("enter of a missing one, outside", day.enter(0, 0, 4, 0), OUTSIDE);
        due("enter of a missing one, unknown", day.enter(0, 0, 1, 2), UNKNOWN);
        day.book(0, 3);
        due("enter 9999", day.enter(0, 0, 0, 9999), 1);
        due("enter -9999", day.enter(0, 2, 0, -9999), 1);
        due("enter 10000", day.enter(0, 0, 0, 10000), OUTSIDE);
        due("enter -10000", day.enter(0, 0, 0, -10000), OUTSIDE);
        due("enter hour", day.enter(0, 1, 1, 1), 1);
        due("read hour", day.read(0, 1, 1), 1);
        due("enter hour 2", day.enter(0, 1, 1, 2), UNKNOWN);
        due("enter hour -1", day.enter(0, 1, 1, -1), UNKNOWN);
        due("enter book", day.enter(0, 1, 2, 3), 1);
        due("enter its own", day.enter(0, 1, 2, 0), 1);
        due("enter book 4", day.enter(0, 1, 2, 4), UNKNOWN);
        due("enter book -1", day.enter(0, 1, 2, -1), UNKNOWN);
        due("enter of book 4", day.enter(4, 0, 0, 0), UNKNOWN);
        due("enter of book -1", day.enter(-1, 0, 9, 0), UNKNOWN);
        due("enter what 4", day.enter(0, 0, 4, 0), OUTSIDE);
        due("enter what -1", day.enter(0, 9, -1, 0), OUTSIDE);
        due("enter line 3", day.enter(0, 3, 0, 0), INDEX);
        due("enter line -1", day.enter(0, -1, 3, 0), INDEX);
        due("read line 0 yet", day.read(0, 0, 0), 59999);
        due("enter nothing", day.enter(0, 0, 3, HIGH), 1);
        due("read nothing", day.read(0, 0, 0), EMPTY);
        due("read line 2", day.read(0, 2, 0), 40001);
    }

    private static void promise31() {
        OstlerHours day = told("inn 1;hack 0 0");
        due("read of a missing one", day.read(0, 0, 0), NULL);
        due("read of a missing one, outside", day.read(0, 0, 3), OUTSIDE);
        day.book(0, 4);
        day.enter(0, 0, 0, 7);
        day.enter(0, 1, 1, 0);
        day.enter(0, 2, 2, 3);
        int[][] wants = {{50007, CAST, CAST}, {CAST, 0, CAST}, {CAST, CAST, 3}, {EMPTY, EMPTY, EMPTY},
            {INDEX, INDEX, INDEX}};
        for (int i = 0; i < 5; i++) {
            for (int what = 0; what < 3; what++) {
                due("read(0, " + i + ", " + what + ")", day.read(0, i, what), wants[i][what]);
            }
        }
        due("read(0, -1, 0)", day.read(0, -1, 0), INDEX);
        due("read(0, LOW, 0)", day.read(0, LOW, 0), INDEX);
        due("read(0, 0, -1)", day.read(0, 0, -1), OUTSIDE);
        due("read(0, 9, 3)", day.read(0, 9, 3), OUTSIDE);
        due("read(4, 0, 3)", day.read(4, 0, 3), UNKNOWN);
        due("read(-1, 0, 0)", day.read(-1, 0, 0), UNKNOWN);
    }

    private static void promise32() {
        OstlerHours day = told("inn 1;hack 0 0");
        due("weigh of a missing one", day.weigh(0, 0), NULL);
        due("weigh of a missing one, outside", day.weigh(0, 2), OUTSIDE);
        day.book(0, 10);
        due("weigh of an empty one", day.weigh(0, 0), 1000000);
        due("deep of an empty one", day.weigh(0, 1), 1);
        day.enter(0, 0, 0, 12);
        day.enter(0, 1, 1, 0);
        day.enter(0, 2, 1, 0);
        day.enter(0, 3, 2, 1);
        day.enter(0, 4, 2, 0);
        due("weigh", day.weigh(0, 0), 1002012);
        day.book(1, 2);
        day.enter(1, 0, 2, 2);
        day.enter(1, 1, 0, -50);
        due("weigh", day.weigh(0, 0), 1001962);
        due("deep", day.weigh(0, 1), 2);
        day.book(2, 3);
        day.enter(2, 0, 2, 3);
        day.enter(2, 1, 2, 0);
        day.book(3, 2);
        day.enter(3, 0, 1, 0);
        day.enter(3, 1, 2, 1);
        for (int b = 0; b < 4; b++) {
            due("weigh of a round", day.weigh(b, 0), 1002962);
            due("deep of a round", day.weigh(b, 1), 4);
        }
        day.drop(2);
        due("weigh beside a missing one", day.weigh(0, 0), 1001962);
        due("deep beside a missing one", day.weigh(0, 1), 2);
        due("weigh of another", day.weigh(3, 0), 1000950);
        day.drop(0);
        day.enter(1, 0, 2, 0);
        due("deep beside the missing first", day.weigh(1, 1), 1);
        due("weigh of the missing first", day.weigh(0, 0), NULL);
        due("weigh(4, 0)", day.weigh(4, 0), UNKNOWN);
        due("weigh(-1, 5)", day.weigh(-1, 5), UNKNOWN);
        due("weigh(0, -1)", day.weigh(0, -1), OUTSIDE);
    }

    private static void promise33() {
        OstlerHours day = told("inn 1;hack 0 0");
        due("copy of missing ones", day.copy(0, 0, 1, 0, 0), NULL);
        day.book(0, 4);
        due("copy to a missing one", day.copy(0, 0, 1, -1, 0), NULL);
        due("copy from a missing one", day.copy(1, 0, 0, 0, 0), NULL);
        day.book(1, 3);
        due("copy(4, ..)", day.copy(4, 0, 1, 0, 0), UNKNOWN);
        due("copy(.., 4, ..)", day.copy(0, 0, 4, 0, 0), UNKNOWN);
        due("copy(-1, ..)", day.copy(-1, 0, 2, 0, 0), UNKNOWN);
        day.enter(0, 0, 0, 1);
        day.enter(0, 1, 1, 0);
        day.enter(0, 2, 2, 1);
        due("copy", day.copy(0, 0, 1, 0, 3), 3);
        due("read(1, 0, 0)", day.read(1, 0, 0), 50001);
        due("read(1, 1, 1)", day.read(1, 1, 1), 0);
        due("read(1, 2, 2)", day.read(1, 2, 2), 1);
        due("copy up in itself", day.copy(0, 0, 0, 1, 3), 3);
        due("read(0, 0, 0)", day.read(0, 0, 0), 50001);
        due("read(0, 1, 0)", day.read(0, 1, 0), 50001);
        due("read(0, 2, 1)", day.read(0, 2, 1), 0);
        due("read(0, 3, 2)", day.read(0, 3, 2), 1);
        due("copy down in itself", day.copy(0, 1, 0, 0, 3), 3);
        due("read(0, 1, 1)", day.read(0, 1, 1), 0);
        due("read(0, 2, 2)", day.read(0, 2, 2), 1);
        day.enter(0, 0, 3, 0);
        due("copy of nothing", day.copy(0, 0, 1, 0, 1), 1);
        due("read(1, 0, 0)", day.read(1, 0, 0), EMPTY);
        due("copy of no lines", day.copy(0, 4, 1, 3, 0), 0);
        int[][] wrong = {{-1, 0, 1}, {0, -1, 1}, {0, 0, -1}, {5, 0, 0}, {0, 4, 0}, {0, 0, 4}, {2, 0, 3}, {0, 1, 3},
            {0, 0, HIGH}, {HIGH, 0, 1}, {1, HIGH, HIGH}, {HIGH, HIGH, LOW}, {LOW, 0, LOW}};
        for (int[] w : wrong) {
            due("copy beyond " + w[0] + " " + w[1] + " " + w[2], day.copy(0, w[0], 1, w[1], w[2]), INDEX);
        }
    }

    private static void promise34() {
        OstlerHours day = told("inn 1;hack 0 0");
        due("drop of a missing one", day.drop(0), NULL);
        due("drop(4)", day.drop(4), UNKNOWN);
        due("drop(-1)", day.drop(-1), UNKNOWN);
        day.book(0, 8);
        day.enter(0, 0, 0, 0);
        day.enter(0, 2, 1, 0);
        day.enter(0, 4, 2, 0);
        day.enter(0, 5, 0, 1);
        day.enter(0, 5, 3, 1);
        due("drop", day.drop(0), 3);
        due("read of the dropped", day.read(0, 0, 0), NULL);
        due("drop again", day.drop(0), NULL);
        due("book(0, 0)", day.book(0, 0), 0);
        due("drop of no lines", day.drop(0), 0);
    }

    private static void promise35() {
        OstlerHours day = told(THREE_LAMED);
        day.stage(1);
        day.stage(1);
        day.turn(0, 1);
        day.seen(1, 1, 1);
        day.book(0, 1);
        day.book(2, 1);
        write(day, "road");
        int[] wants = {4, 3, 4, 2, 7, 14, 27, 1, 2, 3, 4, OUTSIDE};
        for (int what = 0; what < wants.length; what++) {
            due("count(" + what + ")", day.count(what), wants[what]);
        }
        due("count(-1)", day.count(-1), OUTSIDE);
        due("count(LOW)", day.count(LOW), OUTSIDE);
        day.stage(1);
        due("count(6), who waits", day.count(6), 28);
        day.shoe(1);
        due("count(4)", day.count(4), 5);
    }

    public static void main(String[] args) {
        promise1();
        promise2();
        promise3();
        promise4();
        promise5();
        promise6();
        promise7();
        promise8();
        promise9();
        promise10();
        promise11();
        promise12();
        promise13();
        promise14();
        promise15();
        promise16();
        promise17();
        promise18();
        promise19();
        promise20();
        promise21();
        promise22();
        promise23();
        promise24();
        promise25();
        promise26();
        promise27();
        promise28();
        promise29();
        promise30();
        promise31();
        promise32();
        promise33();
        promise34();
        promise35();
        System.out.println("answers: " + passed + " as due, " + failed + " not");
        if (failed != 0) {
            System.exit(1);
        }
    }
}
