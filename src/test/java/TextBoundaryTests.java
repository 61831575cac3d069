/** THE TEXT: each sentence that names a boundary case, at the bound, one below and one above it. */
public final class TextBoundaryTests {
    private static final String BLANK = " ";
    private static final String[] HOUR_WORDS = {"hack", "vicious", "dawn", "grey", "midnight"};

    // ---- helpers

    private static void fine(Calls day, String text) {
        day.write(text).run("fault: NONE, road: " + text.split(";").length + ", count 10: 0");
    }

    /** The sign # stands for nothing: the FAULT is at what is behind it. */
    private static void faulty(Calls day, String marked) {
        String text = marked.replace("#", "");
        int place = marked.indexOf('#');
        day.write(text).run("fault: " + place + ", road: NOT, count 10: " + text.length() + ", fault: " + place);
    }

    private static void fine(String text) {
        fine(Calls.fresh(), text);
    }

    private static void faulty(String marked) {
        faulty(Calls.fresh(), marked);
    }

    private static void faultyBehind(String first, String marked) {
        faulty(Calls.told(first), marked);
    }

    private static void fineBehind(String first, String text) {
        fine(Calls.told(first), text);
    }

    // ---- letters

    private static void lettersUpTo200() {
        Calls.about("THE TEXT is a row of letters, 200 at most");
        Calls.fresh().write(BLANK.repeat(198)).run("write 32: 199, write 32: 200, write 32: FULL, write 255: FULL,"
                + " count 10: 200, write 256: OUTSIDE, write -1: OUTSIDE, erase: 200, count 10: 0, write 32: 1");
        fine("inn 1" + BLANK.repeat(194));
        fine("inn 1" + BLANK.repeat(195));
        fine(BLANK.repeat(194) + " inn 1");
        faulty("inn 1" + BLANK.repeat(194) + ";#");
        faulty("inn 1" + BLANK.repeat(194) + "#x");
        faulty("inn 1" + BLANK.repeat(193) + ";#;");
        faulty("inn" + BLANK.repeat(197) + "#");
        faulty(BLANK.repeat(200) + "#");
        faulty("#" + "x".repeat(200));
        faulty("inn #" + "1".repeat(196));
        Calls.fresh().write("inn 1" + BLANK.repeat(193)).go("write 59").run("fault: 199, write 105: 200, write 110: FULL,"
                + " fault: 199, road: NOT, count 10: 200");
    }

    private static void lettersByNumber() {
        Calls.about("A letter (its number, 0 .. 255) more of THE TEXT");
        Calls.fresh().run("write -1: OUTSIDE, write 0: 1, write 1: 2, write 254: 3, write 255: 4, write 256: OUTSIDE,"
                + " write LOW: OUTSIDE, write HIGH: OUTSIDE, count 10: 4, fault: 0, erase: 4, erase: 0");
    }

    private static void emptyText() {
        Calls.about("THE TEXT is empty: how many letters it had");
        Calls.fresh().run("erase: 0, fault: 0, road: NOT, count 10: 0, write 32: 1, erase: 1, fault: 0, erase: 0");
        fineBehind("inn 1", "road");
        Calls.told("inn 1").run("fault: 0, road: NOT, erase: 0");
    }

    // ---- clauses

    private static void clausesUpTo20() {
        Calls.about("CLAUSES with ; between, 20 at most");
        fine("road");
        fine(Calls.times(2, "road"));
        fine(Calls.times(19, "road"));
        fine(Calls.times(20, "road"));
        fine(Calls.times(20, "road") + BLANK);
        faulty(Calls.times(20, "road") + "#;road");
        faulty(Calls.times(20, "road") + "#;");
        faulty(Calls.times(20, "road") + " #; noon");
        faulty(Calls.times(20, "road") + "#;" + Calls.times(5, "road"));
        faulty(Calls.times(19, "road") + ";#");
        faulty(Calls.times(19, "road") + ";#roads");
        faulty(Calls.times(20, "road") + " #road");
        String full = Calls.times(6, "inn 1") + ";" + Calls.times(8, "hack 5 9") + ";" + Calls.times(4, "rider 0 5");
        Calls.fresh().write(full).run("fault: NONE, road: 18, count 0: 6, count 1: 8, count 2: 4");
        Calls.fresh().write("road;road;" + full).run("fault: NONE, road: 20, count 0: 6, count 1: 8, count 2: 4");
        fineBehind(Calls.times(20, "road"), Calls.times(20, "road"));
    }

    private static void semicolonsBetween() {
        Calls.about("CLAUSES with ; between");
        faulty("#;");
        faulty("#;road");
        faulty("road;#");
        faulty("road;#;road");
        faulty("road; #;road");
        faulty("road #road");
        faulty("inn 1 #inn 1");
        faulty("inn 1#:inn 1");
        faulty("inn 1#<inn 1");
        faulty("inn #;1");
        faulty("inn 1;hack 0#;0");
        faulty("inn 1;hack#;0 0");
        fine("road;road");
        fine(" road ; road ");
    }

    private static void clausesInTheirOrder() {
        Calls.about("CLAUSES are done in their order");
        Calls.told("inn 1;inn 2;road;inn 3").run("count 0: 1, inn 0: 3, inn 1: UNKNOWN");
        Calls.told("road;inn 4;inn 5").run("inn 0: 4, inn 1: 5, inn 2: UNKNOWN");
        Calls.told("inn 4;inn 5;road").run("count 0: 0, inn 0: UNKNOWN");
        Calls.told("inn 1;hack 0 1;rider 0 0;grey 0 2;road;inn 1;dawn 0 3").run("count 1: 1, count 2: 0, hour 0 0: 2,"
                + " hour 0 3: 3, hour 1 0: UNKNOWN, rider 0 0: UNKNOWN");
    }

    // ---- words, numbers and blanks

    private static void wordsAsWritten() {
        Calls.about("each is one of: road. inn M. hack I T. .. (As written here, without points)");
        for (String word : HOUR_WORDS) {
            fine("inn 1;" + word + " 0 0");
            faulty("inn 1;#" + word + "s 0 0");
            faulty("inn 1;#x" + word + " 0 0");
            faulty("inn 1;#" + word.substring(1) + " 0 0");
            faulty("inn 1;#" + word.substring(0, word.length() - 1) + " 0 0");
            faulty("inn 1;#" + word.substring(0, 2) + " " + word.substring(2) + " 0 0");
            faulty("inn 1;" + word + "#. 0 0");
        }
        String[] others = {"rider 0 0", "inn 1", "road"};
        for (String clause : others) {
            fine("inn 1;" + clause);
            faulty("inn 1;#x" + clause);
            faulty("inn 1;#" + clause.substring(1));
            faulty("inn 1;#" + clause.charAt(0) + " " + clause.substring(1));
            faulty("inn 1;" + clause + "#.");
            faulty("inn 1;" + clause + " #0");
        }
        faulty("#roads");
        faulty("#inns 1");
        faulty("inn 1;#riders 0 0");
        faulty("#hour 0 0");
        faulty("#1");
        faulty("#inninn 1");
    }

    private static void smallLetters() {
        Calls.about("small letters a .. z .. a row of small letters, a row of digits, any other letter");
        faulty("#`inn 1");
        faulty("#{inn 1");
        faulty("inn#` 1");
        faulty("inn#{ 1");
        faulty("#Inn 1");
        faulty("#iNN 1");
        faulty("#i\u00e9n 1");
        faulty("#ainn 1");
        faulty("#zinn 1");
        faulty("#inna 1");
        faulty("#innz 1");
        faulty("inn #/");
        faulty("inn #:");
        faulty("inn 1#/");
        faulty("inn 1#:");
        faulty("inn #-1");
        faulty("inn #a");
        faulty("inn #a1");
        faulty("inn 1#a");
        fine("inn1");
        fine("inn 1;grey0 9");
    }

    private static void blanksBetween() {
        Calls.about("blanks between");
        fine("  inn   1  ;   hack   0   0  ");
        fine("inn 1;hack 0 0");
        faulty("inn 1;hack #00");
        faulty("inn#\u001f1");
        faulty("inn#!1");
        faulty("inn#\t1");
        faulty("inn#\n1");
        faulty("inn#\u00a01");
        faulty("inn#\u00001");
        faulty("#\u0000inn 1");
        faulty("inn 1#\u00ff");
    }

    private static void numbersOfOneDigit() {
        Calls.about("numbers of 1 digit .. (a number out of its bounds, of more digits, also)");
        fine("inn 1");
        fine("inn 9");
        faulty("inn #01");
        faulty("inn #10");
        faulty("inn #11");
        faulty("inn #001");
        faulty("inn 1 #1");
        faulty("inn 1;hack #00 0");
        faulty("inn 1;hack 0 #00");
        faulty("inn 1;hack 0 #09");
        faulty("inn 1;hack 0 #99");
        faulty("inn 1;rider #00 0");
        faulty("inn 1;rider 0 #00");
        faulty("inn #99999999999999999999");
    }

    // ---- bounds of numbers

    private static void milesOfAnInn() {
        Calls.about("inn: an INN more, M its MILES, 1 to 9 (of INN 0 no matter)");
        faulty("inn #0");
        faulty("inn 1;inn #0");
        for (int m = 1; m <= 9; m++) {
            Calls.told("inn " + m + ";inn " + m).run("inn 0: " + m + ", inn 1: " + m + ", inn 2: UNKNOWN, inn -1: UNKNOWN");
        }
        faulty("inn #10");
        faulty("inn 1;inn #10");
        for (int m = 1; m <= 9; m++) {
            Calls.told("inn " + m + ";inn 4;hack 0 0;rider 0 1").run("stage 1: 1, rider 0 2: 4, hour 0 3: 4");
        }
    }

    private static void homesAndTiredOfHours() {
        Calls.about("hack ..: an HOUR more, HOME and at INN I, TIRED by T, 0 to 9");
        String six = Calls.times(6, "inn 1") + ";";
        for (int kind = 0; kind < HOUR_WORDS.length; kind++) {
            String word = HOUR_WORDS[kind];
            faulty(word + " #0 0");
            faulty("inn 1;" + word + " #1 0");
            faulty("inn 1;" + word + " #9 0");
            faulty("inn 1;inn 1;" + word + " #2 0");
            faulty(six + word + " #6 0");
            faulty("inn 1;" + word + " 0 #10");
            faulty("inn 1;" + word + " 0 #-1");
            Calls.told(six + word + " 5 0;" + word + " 0 9;" + word + " 4 1").run("hour 0 0: " + kind + ", hour 0 1: 5,"
                    + " hour 0 2: 5, hour 0 3: 0, hour 0 4: 0, hour 0 5: 0, hour 1 0: " + kind + ", hour 1 1: 0, hour 1 2: 0,"
                    + " hour 1 3: 9, hour 1 4: 0, hour 1 5: 0, hour 2 1: 4, hour 2 3: 1, hour 3 0: UNKNOWN");
        }
    }

    private static void waysOfRiders() {
        Calls.about("rider: a RIDER more, at INN F, going TO INN I");
        String six = Calls.times(6, "inn 1") + ";";
        faulty("rider #0 0");
        faulty("inn 1;rider #1 0");
        faulty("inn 1;rider 0 #1");
        faulty("inn 1;rider #9 9");
        faulty(six + "rider #6 0");
        faulty(six + "rider 0 #6");
        Calls.told(six + "rider 5 0;rider 0 5;rider 5 5").run("rider 0 0: 5, rider 0 1: 0, rider 0 2: 0, rider 1 0: 0,"
                + " rider 1 1: 5, rider 2 0: 5, rider 2 1: 5, rider 3 0: UNKNOWN");
        Calls.told("inn 1;rider 0 0").run("rider 0 0: 0, rider 0 1: 0, count 5: 1");
    }

    private static void innsToldAhead() {
        Calls.about("INNS are told ahead");
        faulty("hack #0 0;inn 1");
        faulty("rider #0 0;inn 1");
        faulty("inn 1;hack #1 0;inn 1");
        faulty("inn 1;rider 0 #1;inn 1");
        faulty("inn 1;road;hack #0 0");
        faulty("inn 1;inn 1;road;inn 1;hack #1 0");
        fine("inn 1;hack 0 0;inn 1;hack 1 0");
        fineBehind("inn 1;inn 1", "hack 1 0");
        faultyBehind("inn 1;inn 1", "hack #2 0");
        faultyBehind("inn 1;inn 1", "road;hack #0 0");
        fineBehind("inn 1;inn 1", "road;inn 1;hack 0 0");
    }

    // ---- what is too many

    private static void sixInns() {
        Calls.about("INNS are 0, 1 .., 6 at most .. a seventh cannot stand there (at its word)");
        String five = Calls.times(5, "inn 1");
        String six = Calls.times(6, "inn 1");
        Calls.told(five).run("count 0: 5, inn 4: 1, inn 5: UNKNOWN");
        Calls.told(six).run("count 0: 6, inn 5: 1, inn 6: UNKNOWN");
        faulty(six + ";#inn 1");
        faulty(six + ";#inn");
        faulty(six + ";#inn 0");
        faulty(six + ";road;" + six + ";#inn 1");
        fine(six + ";road;" + six);
        fineBehind(five, "inn 2");
        faultyBehind(five, "inn 2;#inn 2");
        faultyBehind(six, "#inn 2");
        faultyBehind(six, "hack 5 0;#inn 2");
        fineBehind(six, "road;" + six);
        faultyBehind(six, "road;" + six + ";#inn 3");
        Calls.told(six).write("inn 2").run("fault: 0, road: NOT, erase: 5, count 0: 6, inn 5: 1");
        Calls.told(six).tell("road").run("count 0: 0").tell(six).run("count 0: 6");
    }

    private static void eightHours() {
        Calls.about("HOURS are 0, 1 .., 8 at most .. a ninth cannot");
        String seven = "inn 1;" + Calls.times(7, "grey 0 0");
        String eight = "inn 1;" + Calls.times(8, "grey 0 0");
        Calls.told(seven).run("count 1: 7, hour 6 0: 3, hour 7 0: UNKNOWN");
        Calls.told(eight).run("count 1: 8, hour 7 0: 3, hour 8 0: UNKNOWN");
        for (String word : HOUR_WORDS) {
            fineBehind(seven, word + " 0 1");
            faultyBehind(seven, word + " 0 1;#" + word + " 0 1");
            faultyBehind(eight, "#" + word + " 0 1");
            faulty(eight + ";#" + word + " 0 1");
            faulty(eight + ";#" + word);
            faulty(eight + ";#" + word + " 1 0");
        }
        fineBehind(eight, "inn 1;rider 0 0");
        fineBehind(eight, "road;" + eight);
        Calls.told(eight).write("dawn 0 9").run("road: NOT, erase: 8, count 1: 8, hour 7 0: 3, hour 7 3: 0");
    }

    private static void fourRiders() {
        Calls.about("RIDERS are 0, 1 .., 4 at most .. a fifth cannot");
        String three = "inn 1;" + Calls.times(3, "rider 0 0");
        String four = "inn 1;" + Calls.times(4, "rider 0 0");
        Calls.told(three).run("count 2: 3, rider 2 0: 0, rider 3 0: UNKNOWN");
        Calls.told(four).run("count 2: 4, rider 3 0: 0, rider 4 0: UNKNOWN, count 5: 15");
        fineBehind(three, "rider 0 0");
        faultyBehind(three, "rider 0 0;#rider 0 0");
        faultyBehind(four, "#rider 0 0");
        faulty(four + ";#rider 0 0");
        faulty(four + ";#rider");
        faulty(four + ";#rider 1 0");
        fineBehind(four, "inn 1;hack 0 0");
        fineBehind(four, "road;" + four);
    }

    // ---- the fault

    private static void faultAtTheEnd() {
        Calls.about("or at the end, if it comes too soon");
        String[] tooSoon = {"", " ", "inn", "inn ", "inn   ", "inn 1;", "inn 1; ", "road;", "road ; ", "inn 1;hack", "inn 1;hack ",
            "inn 1;hack 0", "inn 1;hack 0 ", "inn 1;rider", "inn 1;rider 0", "inn 1;vicious 0", "inn 1;dawn", "inn 1;grey 0 ",
            "inn 1;midnight"};
        for (String text : tooSoon) {
            faulty(text + "#");
        }
        String[] inTime = {"road", "road ", "inn 1", "inn 1  ", "inn 1;rider 0 0", "inn 1;midnight 0 0 "};
        for (String text : inTime) {
            fine(text);
        }
        faulty("hack#");
        faulty("rider#");
    }

    private static void firstFault() {
        Calls.about("A FAULT is at the first TOKEN that cannot stand there");
        faulty("inn #0;inn 0");
        faulty("inn 1;hack #5 10;noon");
        faulty("#noon;inn 0");
        faulty("inn 1 #2 3");
        faulty("inn 1;inn1#x 2");
        faulty("inn 1;#.;inn");
        Calls.fresh().write("inn").run("fault: 3").write(" 0").run("fault: 4, erase: 5").write("inn 7")
                .run("fault: NONE").write(";").run("fault: 6").write("x").run("fault: 6, road: NOT, count 0: 0");
    }

    // ---- behind the clauses

    private static void earlierTextsStay() {
        Calls.about("what earlier texts told stays as it was told");
        Calls day = Calls.told("inn 1;inn 9;hack 1 9;dawn 0 2;rider 1 0;rider 0 1");
        day.run("stage 3: 3, lead 0 1: 0, turn 1 0: 1, oats 1: 5").tell("inn 3;grey 2 4;rider 2 2")
                .run("inn 0: 1, inn 1: 9, inn 2: 3, count 0: 3, count 1: 3, count 2: 3")
                .run("hour 0 0: 0, hour 0 1: 1, hour 0 2: 1, hour 0 3: 9, hour 0 4: 0, hour 0 5: 0")
                .run("hour 1 0: 2, hour 1 1: 0, hour 1 2: 0, hour 1 3: 2, hour 1 4: 0, hour 1 5: 0")
                .run("hour 2 0: 3, hour 2 1: 2, hour 2 2: 2, hour 2 3: 4, hour 2 4: 0, hour 2 5: 0")
                .run("rider 0 0: 1, rider 0 1: 0, rider 0 2: 0, rider 1 0: 0, rider 1 1: 1, rider 1 2: 0, rider 2 0: 2,"
                        + " rider 2 1: 2, rider 2 2: 0");
    }

    private static void allIsAsTold() {
        Calls.about("Behind them all is as told, nobody LAME, RIDDEN 0 times, CLOCKS 0, it is STAGE 0, nothing is SEEN,"
                + " nothing is kept or can be undone; BOOKS are all missing");
        String[] texts = {"road", "inn 2", "road;inn 2;inn 2;vicious 0 0;rider 0 1"};
        for (String text : texts) {
            Calls day = Calls.told("inn 1;inn 1;vicious 0 9;hack 1 8;rider 0 1;rider 1 0");
            day.run("stage 1: 1, count 4: 1, count 6: 2, seen 1 1 1: 1, seen 1 2 0: 2, kinds: 0, keep 0: 1, keep 1: 1")
                    .run("book 0 3: 3, book 1 0: 0, book 2 10: 10, book 3 1: 1, enter 0 0 0 5: 1, count 8: 4, count 9: 1")
                    .tell(text)
                    .run("count 3: 0, count 4: 0, count 6: 0, count 7: 0, count 8: 0, count 9: 0, count 10: 0")
                    .run("kinds: 31, forget: 0, undo: NOT, back 0: NOT, back 1: NOT, weigh 0 0: NULL, weigh 1 0: NULL")
                    .run("read 2 0 0: NULL, drop 3: NULL, book 0 3: 3, read 0 0 0: EMPTY");
        }
        Calls day = Calls.told("inn 1;inn 1;vicious 0 0;rider 0 1");
        day.run("stage 1: 1, turn 0 0: 1, stage 1: 2, hour 0 5: 2").tell("inn 1")
                .run("hour 0 5: 0, stage 1: 1, rider 0 0: 1, turn 0 0: 1, stage 1: 2, rider 0 0: 0, rider 0 2: 2");
    }

    private static void fewerThanBefore() {
        Calls.about("road: all as at first");
        Calls day = Calls.told("inn 9;inn 9;" + Calls.times(8, "hack 0 9") + ";" + Calls.times(4, "rider 0 1"));
        day.run("match NONE: 36, stage 1: 1, count 4: 15, count 6: 36, turn 1 0: 1, turn 3 0: 1").tell("road;inn 1;inn 2;hack 0 0;rider 0 1")
                .run("count 4: 0, count 5: 0, count 6: 0, match NONE: 2, match 0: 0, match 1: UNKNOWN, given 0: 0, fastest 0: 2, feed 0 1: 0,"
                        + " comes 0 0: 1, ahead 0 1 1: 2, stage 1: 1, count 4: 0, count 5: 1, count 6: 2, hour 1 0: UNKNOWN, rider 1 0: UNKNOWN")
                .tell("road").run("match NONE: 0, count 5: 0, count 6: 0, stage 1: 1, count 6: 0, undo: 0");
    }

    public static void main(String[] args) {
        lettersUpTo200();
        lettersByNumber();
        emptyText();
        clausesUpTo20();
        semicolonsBetween();
        clausesInTheirOrder();
        wordsAsWritten();
        smallLetters();
        blanksBetween();
        numbersOfOneDigit();
        milesOfAnInn();
        homesAndTiredOfHours();
        waysOfRiders();
        innsToldAhead();
        sixInns();
        eightHours();
        fourRiders();
        faultAtTheEnd();
        firstFault();
        earlierTextsStay();
        allIsAsTold();
        fewerThanBefore();
        Calls.end("bounds of THE TEXT");
    }
}
