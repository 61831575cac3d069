/** BOOKS, and what counts tell: each sentence that names a boundary case, below, at and above it. */
public final class BookBoundaryTests {
    private static final String HOURS = "inn 1;hack 0 0;hack 0 0";

    // ---- helpers

    private static String all(int book, int lines, String entry) {
        StringBuilder script = new StringBuilder();
        for (int i = 0; i < lines; i++) {
            script.append(i == 0 ? "" : ", ").append("enter ").append(book).append(' ').append(i).append(' ').append(entry).append(": 1");
        }
        return script.toString();
    }

    // ---- books

    private static void fourBooks() {
        Calls.about("BOOKS 0 .. 3 are missing (at first)");
        Calls.fresh().run("book -1 1: UNKNOWN, book 4 1: UNKNOWN, book LOW 1: UNKNOWN, book HIGH 1: UNKNOWN, count 8: 0, weigh 0 0: NULL,"
                + " weigh 3 0: NULL, weigh -1 0: UNKNOWN, weigh 4 0: UNKNOWN, drop 0: NULL, drop 3: NULL, drop 4: UNKNOWN, drop -1: UNKNOWN,"
                + " read 0 0 0: NULL, read 3 0 0: NULL, read 4 0 0: UNKNOWN, enter 0 0 0 0: NULL, enter 3 0 3 0: NULL, enter 4 0 0 0: UNKNOWN,"
                + " copy 0 0 3 0 0: NULL, book 0 1: 1, count 8: 1, book 3 1: 1, count 8: 2, book 1 0: 0, book 2 10: 10, count 8: 4,"
                + " book 4 1: UNKNOWN, count 8: 4, book 0 2: 2, count 8: 4");
    }

    private static void tenLines() {
        Calls.about("rows of 0 to 10 LINES .. OUTSIDE (n above 10); SIZE .. (fewer than none)");
        Calls.fresh().run("book 0 LOW: SIZE, book 0 -1: SIZE, book 0 11: OUTSIDE, book 0 HIGH: OUTSIDE, count 8: 0, weigh 0 0: NULL");
        Calls.fresh().run("book 0 0: 0, weigh 0 0: 1000000, weigh 0 1: 1, read 0 0 0: INDEX, read 0 -1 0: INDEX, enter 0 0 0 1: INDEX,"
                + " enter 0 0 3 0: INDEX, drop 0: 0, count 8: 0");
        Calls.fresh().run("book 0 1: 1, read 0 0 0: EMPTY, read 0 1 0: INDEX, enter 0 0 0 7: 1, enter 0 1 0 7: INDEX, read 0 0 0: 50007,"
                + " drop 0: 1");
        Calls.fresh().run("book 0 9: 9, enter 0 8 0 1: 1, enter 0 9 0 1: INDEX, read 0 8 0: 50001, read 0 9 0: INDEX, drop 0: 1");
        Calls.fresh().run("book 0 10: 10, enter 0 0 0 0: 1, enter 0 9 0 1: 1, enter 0 10 0 1: INDEX, enter 0 -1 0 1: INDEX, read 0 9 0: 50001,"
                + " read 0 10 0: INDEX, read 0 -1 0: INDEX, read 0 LOW 0: INDEX, read 0 HIGH 0: INDEX, enter 0 LOW 0 0: INDEX,"
                + " enter 0 HIGH 0 0: INDEX, book 0 -1: SIZE, book 0 11: OUTSIDE, read 0 9 0: 50001, drop 0: 2");
        Calls.fresh().run("book 0 10: 10, enter 0 9 0 1: 1, book 0 5: 5, read 0 9 0: INDEX, book 0 10: 10, read 0 9 0: EMPTY, drop 0: 0");
    }

    private static void lines() {
        Calls.about("A LINE has nothing (at first), a number, an HOUR, or tells a BOOK");
        Calls.told(HOURS).run("book 0 5: 5, read 0 0 0: EMPTY, read 0 0 1: EMPTY, read 0 0 2: EMPTY, read 0 4 2: EMPTY, enter 0 0 0 0: 1,"
                + " read 0 0 0: 50000, read 0 0 1: CAST, read 0 0 2: CAST, enter 0 0 1 1: 1, read 0 0 0: CAST, read 0 0 1: 1, read 0 0 2: CAST,"
                + " enter 0 0 2 3: 1, read 0 0 0: CAST, read 0 0 1: CAST, read 0 0 2: 3, enter 0 0 3 0: 1, read 0 0 0: EMPTY, read 0 0 1: EMPTY,"
                + " read 0 0 2: EMPTY, enter 0 0 3 HIGH: 1, enter 0 0 3 LOW: 1, read 0 0 -1: OUTSIDE, read 0 0 3: OUTSIDE");
    }

    private static void numbersWithinBounds() {
        Calls.about("the number v (what 0; -9999 .. 9999)");
        Calls.fresh().run("book 0 2: 2, enter 0 0 0 -9999: 1, read 0 0 0: 40001, enter 0 0 0 -10000: OUTSIDE, enter 0 0 0 LOW: OUTSIDE,"
                + " read 0 0 0: 40001, enter 0 0 0 -1: 1, read 0 0 0: 49999, enter 0 0 0 0: 1, read 0 0 0: 50000, enter 0 0 0 1: 1,"
                + " read 0 0 0: 50001, enter 0 0 0 9998: 1, read 0 0 0: 59998, enter 0 0 0 9999: 1, read 0 0 0: 59999,"
                + " enter 0 0 0 10000: OUTSIDE, enter 0 0 0 HIGH: OUTSIDE, read 0 0 0: 59999, enter 0 1 0 10000: OUTSIDE, read 0 1 0: EMPTY");
    }

    private static void hoursAndBooksThatThereAre() {
        Calls.about("HOUR v (1), BOOK v (2), or nothing (3; v is no matter)");
        Calls.told(HOURS).run("book 0 1: 1, enter 0 0 1 -1: UNKNOWN, enter 0 0 1 0: 1, enter 0 0 1 1: 1, enter 0 0 1 2: UNKNOWN,"
                + " enter 0 0 1 LOW: UNKNOWN, enter 0 0 1 HIGH: UNKNOWN, read 0 0 1: 1, enter 0 0 2 -1: UNKNOWN, enter 0 0 2 0: 1,"
                + " read 0 0 2: 0, enter 0 0 2 3: 1, enter 0 0 2 4: UNKNOWN, enter 0 0 2 LOW: UNKNOWN, enter 0 0 2 HIGH: UNKNOWN, read 0 0 2: 3,"
                + " enter 0 0 4 0: OUTSIDE, enter 0 0 -1 0: OUTSIDE, enter 0 0 LOW 0: OUTSIDE, enter 0 0 HIGH 0: OUTSIDE, read 0 0 2: 3");
        Calls.told("inn 1;" + Calls.times(8, "grey 0 0")).run("book 0 1: 1, enter 0 0 1 7: 1, read 0 0 1: 7, enter 0 0 1 8: UNKNOWN");
        Calls.fresh().run("book 0 1: 1, enter 0 0 1 0: UNKNOWN, read 0 0 0: EMPTY");
    }

    // ---- the machine

    private static void machineInOrder() {
        Calls.about("of several the first in this order; it changes nothing");
        Calls.fresh().run("enter 0 -1 0 0: NULL, enter 0 10 3 0: NULL, read 0 -1 0: NULL, read 0 10 2: NULL, copy 0 -1 1 -1 -1: NULL,"
                + " book 0 2: 2, copy 0 -1 1 0 0: NULL, copy 1 0 0 9 0: NULL, copy 1 0 1 0 -1: NULL, read 0 2 0: INDEX, read 0 2 1: INDEX,"
                + " read 0 0 1: EMPTY, enter 0 0 0 4: 1, read 0 0 1: CAST, read 0 1 1: EMPTY, book 0 -1: SIZE, book 1 -1: SIZE, read 0 0 0: 50004,"
                + " count 8: 1");
    }

    // ---- WEIGHT and DEEP

    private static void weights() {
        Calls.about("WEIGHT of a BOOK: 1000000, and all numbers in it, 1000 for each HOUR");
        Calls.told(HOURS).run("book 0 10: 10, weigh 0 0: 1000000").run(all(0, 10, "0 9999")).run("weigh 0 0: 1099990")
                .run(all(0, 10, "0 -9999")).run("weigh 0 0: 900010").run(all(0, 10, "1 1")).run("weigh 0 0: 1010000, enter 0 0 1 0: 1,"
                        + " weigh 0 0: 1010000, enter 0 0 3 0: 1, weigh 0 0: 1009000, enter 0 1 0 1: 1, weigh 0 0: 1008001, enter 0 2 0 -1: 1,"
                        + " weigh 0 0: 1007000, weigh 0 1: 1, weigh 0 -1: OUTSIDE, weigh 0 2: OUTSIDE, weigh 1 -1: OUTSIDE, weigh 1 0: NULL,"
                        + " weigh 4 2: UNKNOWN, weigh 0 HIGH: OUTSIDE, weigh 0 LOW: OUTSIDE");
        Calls full = Calls.fresh();
        for (int b = 0; b < 4; b++) {
            full.run("book " + b + " 10: 10").run(all(b, 10, "0 9999")).run("enter " + b + " 9 2 " + (b + 1) % 4 + ": 1");
        }
        full.run("weigh 0 0: 1359964, weigh 3 0: 1359964, weigh 0 1: 4, weigh 3 1: 4");
    }

    private static void tellsItself() {
        Calls.about("tells a BOOK (by its number, also its own ..) .. each BOOK once");
        Calls.fresh().run("book 0 4: 4, enter 0 0 2 0: 1, weigh 0 0: 1000000, weigh 0 1: 1, enter 0 1 0 5: 1, weigh 0 0: 1000005,"
                + " enter 0 2 2 0: 1, weigh 0 0: 1000005, weigh 0 1: 1, book 1 2: 2, enter 1 0 0 7: 1, enter 1 1 2 0: 1, weigh 1 0: 1000012,"
                + " weigh 1 1: 2, weigh 0 0: 1000005, enter 0 2 2 1: 1, enter 0 3 2 1: 1, weigh 0 0: 1000012, weigh 0 1: 2, weigh 1 0: 1000012");
    }

    private static void tellsAMissingOne() {
        Calls.about("that is what is there by then, perhaps nothing .. (a missing one weighs nothing)");
        Calls.fresh().run("book 0 1: 1, enter 0 0 2 3: 1, read 0 0 2: 3, weigh 0 0: 1000000, weigh 0 1: 1, book 3 0: 0, weigh 0 0: 1000000,"
                + " weigh 0 1: 2, book 3 1: 1, enter 3 0 0 8: 1, weigh 0 0: 1000008, weigh 0 1: 2, book 3 1: 1, weigh 0 0: 1000000, weigh 0 1: 2,"
                + " drop 3: 0, weigh 0 1: 1, read 0 0 2: 3, weigh 3 0: NULL");
        for (int b = 0; b < 4; b++) {
            int missing = (b + 1) % 4;
            Calls.fresh().run("book " + b + " 2: 2, enter " + b + " 0 2 " + missing + ": 1, weigh " + b + " 1: 1, weigh " + b + " 0: 1000000, book "
                    + missing + " 0: 0, weigh " + b + " 1: 2, weigh " + b + " 0: 1000000, drop " + missing + ": 0, weigh " + b + " 1: 1");
        }
        Calls.fresh().run("book 0 1: 1, book 1 2: 2, book 2 1: 1, enter 0 0 2 1: 1, enter 1 0 2 2: 1, enter 1 1 0 1: 1, enter 2 0 0 30: 1,"
                + " weigh 0 0: 1000031, weigh 0 1: 3, drop 1: 2, weigh 0 0: 1000000, weigh 0 1: 1, weigh 2 0: 1000030, drop 0: 1, drop 2: 1");
    }

    private static void deepThroughAll() {
        Calls.about("DEEP: how many BOOKS that are there one goes through so, with it");
        int[][] ways = {{0, 1, 2, 3}, {3, 2, 1, 0}, {2, 0, 3, 1}, {1, 3, 0, 2}};
        for (int[] way : ways) {
            Calls day = Calls.fresh().run("book 0 2: 2, book 1 2: 2, book 2 2: 2, book 3 2: 2");
            for (int i = 0; i < 4; i++) {
                day.run("enter " + way[i] + " 0 0 " + (1 << i) + ": 1, weigh " + way[i] + " 1: 1");
            }
            for (int i = 0; i < 3; i++) {
                day.run("enter " + way[i] + " 1 2 " + way[i + 1] + ": 1");
            }
            for (int i = 0; i < 4; i++) {
                day.run("weigh " + way[i] + " 1: " + (4 - i) + ", weigh " + way[i] + " 0: " + (1000000 + 15 - ((1 << i) - 1)));
            }
            day.run("enter " + way[3] + " 1 2 " + way[0] + ": 1");
            for (int i = 0; i < 4; i++) {
                day.run("weigh " + way[i] + " 1: 4, weigh " + way[i] + " 0: 1000015");
            }
        }
    }

    // ---- copied and dropped

    private static void copiedWithinTheEnds() {
        Calls.about("INDEX (i, j, n below 0, or beyond an end)");
        Calls day = Calls.fresh().run("book 0 4: 4, book 1 3: 3, book 2 0: 0").run(all(0, 4, "0 5"));
        String[] beyond = {"0 -1 1 0 1", "0 0 1 -1 1", "0 0 1 0 -1", "0 0 1 0 4", "0 1 1 0 4", "0 2 1 0 3", "0 0 1 1 3", "0 3 1 0 2", "0 0 1 2 2",
            "0 4 1 0 1", "0 0 1 3 1", "0 5 1 0 0", "0 0 1 4 0", "0 -1 1 0 0", "0 0 1 -1 0", "0 LOW 1 0 0", "0 0 1 LOW 0", "0 0 1 0 LOW",
            "0 HIGH 1 0 1", "0 0 1 HIGH 1", "0 0 1 0 HIGH", "0 1 1 1 HIGH", "0 HIGH 1 HIGH HIGH", "0 HIGH 1 HIGH LOW", "0 LOW 1 LOW LOW",
            "0 1 0 1 4", "0 0 0 5 0", "2 0 2 0 1", "2 1 2 0 0", "2 0 2 1 0", "0 0 2 0 1", "2 0 0 0 1", "2 0 0 0 -1"};
        for (String one : beyond) {
            day.run("copy " + one + ": INDEX");
        }
        day.run("weigh 0 0: 1000020, weigh 1 0: 1000000, copy 0 4 1 3 0: 0, copy 0 0 1 0 0: 0, copy 2 0 2 0 0: 0, copy 0 4 2 0 0: 0,"
                + " copy 2 0 0 4 0: 0, weigh 1 0: 1000000, copy 0 3 1 2 1: 1, weigh 1 0: 1000005, read 1 2 0: 50005, read 1 1 0: EMPTY,"
                + " copy 0 1 1 0 3: 3, weigh 1 0: 1000015, copy 0 0 0 0 4: 4, copy 0 0 0 3 1: 1, copy 0 0 0 4 0: 0, weigh 0 0: 1000020");
        Calls.fresh().run("book 0 10: 10, book 3 10: 10").run(all(0, 10, "0 1")).run("copy 0 0 3 0 11: INDEX, copy 0 0 3 0 10: 10,"
                + " weigh 3 0: 1000010, drop 3: 10, copy 0 0 3 0 0: NULL, copy 3 0 0 0 0: NULL, copy 3 0 3 0 0: NULL, copy 0 0 4 0 0: UNKNOWN,"
                + " copy -1 0 0 0 0: UNKNOWN, copy 0 0 -1 0 0: UNKNOWN, copy 4 0 3 0 -1: UNKNOWN, copy 3 0 4 -1 0: UNKNOWN");
    }

    private static void copiedAsIfTakenAhead() {
        Calls.about("comes to another one (or itself) from j on, as if all was taken ahead: n");
        String filled = "book 0 4: 4, enter 0 0 0 1: 1, enter 0 1 1 1: 1, enter 0 2 2 0: 1";
        Calls.told(HOURS).run(filled).run("copy 0 0 0 1 3: 3, read 0 0 0: 50001, read 0 1 0: 50001, read 0 2 1: 1, read 0 3 2: 0");
        Calls.told(HOURS).run(filled).run("copy 0 1 0 0 3: 3, read 0 0 1: 1, read 0 1 2: 0, read 0 2 0: EMPTY, read 0 3 0: EMPTY");
        Calls.told(HOURS).run(filled).run("copy 0 0 0 2 2: 2, read 0 1 1: 1, read 0 2 0: 50001, read 0 3 1: 1");
        Calls.told(HOURS).run(filled).run("copy 0 0 0 0 4: 4, read 0 0 0: 50001, read 0 1 1: 1, read 0 2 2: 0, read 0 3 2: EMPTY");
        Calls.told(HOURS).run(filled).run("book 1 4: 4, enter 1 3 0 9: 1, copy 0 0 1 0 4: 4, read 1 0 0: 50001, read 1 1 1: 1, read 1 2 2: 0,"
                + " read 1 3 0: EMPTY, read 0 2 2: 0, enter 0 0 0 2: 1, read 1 0 0: 50001, weigh 1 0: 1002003, weigh 1 1: 2");
    }

    private static void droppedBooks() {
        Calls.about("A BOOK is missing from now on: how many LINES of it had something");
        Calls.told(HOURS).run("book 0 10: 10, drop 0: 0, drop 0: NULL, book 0 10: 10").run(all(0, 10, "0 0")).run("drop 0: 10, read 0 0 0: NULL,"
                + " enter 0 0 0 0: NULL, weigh 0 0: NULL, count 8: 0, book 0 3: 3, read 0 0 0: EMPTY, enter 0 0 0 0: 1, enter 0 1 1 0: 1,"
                + " enter 0 2 2 0: 1, enter 0 0 3 0: 1, drop 0: 2, book 0 0: 0, drop 0: 0, drop 4: UNKNOWN, drop -1: UNKNOWN, drop LOW: UNKNOWN");
    }

    // ---- counts

    private static void countsUpTo10() {
        Calls.about("0 INNS, 1 HOURS .. 9 how many can be undone, 10 letters of THE TEXT. OUTSIDE");
        Calls.fresh().run("count -1: OUTSIDE, count 11: OUTSIDE, count LOW: OUTSIDE, count HIGH: OUTSIDE");
        Calls.fresh().run("count 0: 0, count 1: 0, count 2: 0, count 3: 0, count 4: 0, count 5: 0, count 6: 0, count 7: 0, count 8: 0,"
                + " count 9: 0, count 10: 0");
        Calls.told(Calls.times(6, "inn 9") + ";" + Calls.times(8, "hack 0 9") + ";" + Calls.times(4, "rider 0 5")).run("count 0: 6, count 1: 8,"
                + " count 2: 4, count 4: 0, count 5: 0, stage 1: 1, count 4: 15, count 5: 0, count 6: 36, turn 3 1: 5, count 5: 8, turn 0 1: 5,"
                + " count 5: 9, turn 1 1: 5, turn 2 1: 5, count 5: 15, count 9: 5, shoe 0: 10, count 4: 14, write 32: 1, count 10: 1");
        Calls.told("inn 1;inn 9;" + Calls.times(8, "dawn 0 9") + ";" + Calls.times(4, "rider 0 1")).run("stage 1: 1, count 4: 15, turn 0 0: 1,"
                + " turn 1 0: 1, turn 2 0: 1, turn 3 0: 1, lead 4 1: 0, lead 5 1: 0, lead 6 1: 0, lead 7 1: 0, stage 1: 2, count 4: 255,"
                + " count 6: 40, count 5: 15");
    }

    public static void main(String[] args) {
        fourBooks();
        tenLines();
        lines();
        numbersWithinBounds();
        hoursAndBooksThatThereAre();
        machineInOrder();
        weights();
        tellsItself();
        tellsAMissingOne();
        deepThroughAll();
        copiedWithinTheEnds();
        copiedAsIfTakenAhead();
        droppedBooks();
        countsUpTo10();
        Calls.end("bounds of books and counts");
    }
}
