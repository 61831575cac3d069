import java.util.ArrayList;
import java.util.List;
import java.util.function.Supplier;

/**
 * Refused calls: each answers the first refusal that fits, and changes nothing. Two objects are brought to the
 * same state, one of them is called, and then all that can be told, undone and taken back is looked at in both.
 */
public final class RefusalTests {
    private static final int LOOKS = 6;

    // ---- states: 3 INNS, 3 HOURS, 2 RIDERS (but in the new object and the full one)

    private static Calls told() {
        return Calls.told("inn 1;inn 9;inn 2;hack 1 9;dawn 0 3;vicious 2 0;rider 1 0;rider 0 2");
    }

    /** Nine doings, so that the oldest is forgotten; two states kept; BOOK 2 is missing, BOOK 3 has no LINES. */
    private static Calls busy(String text) {
        return told().run("stage 1: 1, keep 0: 1, lead 2 1: 2, oats 0: 7, turn 0 2: 0, stage 2: 3, shoe 1: 8, oats 1: 2, lead 0 1: 0,"
                + " turn 1 0: 2, keep 1: 3, count 9: 8")
                .run("hour 0 4: 1, hour 1 4: 0, hour 1 3: 2, oats 1: 0, undo: 7, stage 1: 4, oats 0: 1, hour 1 3: 0, count 9: 8")
                .run("book 0 4: 4, enter 0 0 0 -7: 1, enter 0 1 1 2: 1, enter 0 2 2 1: 1, book 1 2: 2, enter 1 0 0 30: 1, enter 1 1 2 2: 1,"
                        + " book 3 0: 0, seen 5 5 5: 1, seen 3 3 3: 2")
                .write(text);
    }

    private static Calls busyWithAFault() {
        return busy("inn 4;inn");
    }

    private static Calls busyWithAGoodText() {
        return busy("inn 4;rider 3 0");
    }

    private static Calls oneKept() {
        return told().run("stage 1: 1, keep 0: 1, book 0 1: 1, write 32: 1");
    }

    private static Calls fullOfLetters() {
        return Calls.told("inn 1").run("seen 5 5 5: 1, seen 5 5 5: 2, seen 5 5 5: 3, seen 5 5 5: 4, seen 5 5 5: 5, seen 9 9 9: 6")
                .write("inn 2" + " ".repeat(195)).run("count 10: 200");
    }

    private static Calls late(String last) {
        Calls day = Calls.told("inn 1;inn 5;hack 0 1;rider 0 1");
        for (int i = 1; i <= 82; i++) {
            day.run("stage 12: " + 12 * i);
        }
        return day.run(last);
    }

    private static Calls at995() {
        return late("stage 11: 995, turn 0 0: 1");
    }

    private static Calls at999() {
        return late("stage 12: 996, turn 0 0: 1, stage 3: 999");
    }

    // ---- looks: each on objects of its own, as all of them together would take too many calls

    private static List<Integer> look(Calls day, int which) {
        List<Integer> seen = new ArrayList<>();
        switch (which) {
            case 0:
                lookAtTheDay(day, seen);
                break;
            case 1:
                lookAtBooks(day, seen);
                break;
            case 2:
                lookAtWhatIsUndone(day, seen);
                break;
            case 3:
                ask(day, seen, "back 0", "count 9");
                lookAtTheDay(day, seen);
                ask(day, seen, "back 1", "count 9");
                lookAtTheDay(day, seen);
                break;
            case 4:
                ask(day, seen, "fault", "road");
                lookAtTheDay(day, seen);
                ask(day, seen, "erase");
                break;
            default:
                lookAhead(day, seen);
        }
        return seen;
    }

    private static void ask(Calls day, List<Integer> seen, String... calls) {
        for (String call : calls) {
            seen.add(day.call(call));
        }
    }

    private static void lookAtTheDay(Calls day, List<Integer> seen) {
        for (int what = 0; what <= 10; what++) {
            ask(day, seen, "count " + what);
        }
        for (int n = 0; n < 3; n++) {
            for (int what = 0; what <= 5; what++) {
                ask(day, seen, "hour " + n + " " + what);
            }
            ask(day, seen, "rider " + n + " 0", "rider " + n + " 1", "rider " + n + " 2", "inn " + n);
        }
        ask(day, seen, "inn 3");
    }

    private static void lookAtBooks(Calls day, List<Integer> seen) {
        for (int b = 0; b < 4; b++) {
            ask(day, seen, "weigh " + b + " 0", "weigh " + b + " 1");
            for (int i = 0; i < 5; i++) {
                ask(day, seen, "read " + b + " " + i + " 0", "read " + b + " " + i + " 1", "read " + b + " " + i + " 2");
            }
            ask(day, seen, "drop " + b);
        }
    }

    private static void lookAtWhatIsUndone(Calls day, List<Integer> seen) {
        for (int i = 0; i < 9; i++) {
            ask(day, seen, "undo", "count 3", "count 4", "count 6");
            for (int h = 0; h < 3; h++) {
                ask(day, seen, "hour " + h + " 2", "hour " + h + " 3", "hour " + h + " 5", "rider " + h + " 0", "rider " + h + " 1");
            }
        }
    }

    private static void lookAhead(Calls day, List<Integer> seen) {
        for (int n = 0; n < 3; n++) {
            ask(day, seen, "given " + n, "ahead " + n + " 1 0", "ahead " + n + " 2 1", "comes " + n + " 0", "comes " + n + " 1",
                    "match " + n, "fastest " + n, "feed " + n + " 3", "as " + n + " 1");
        }
        ask(day, seen, "match NONE", "kinds", "ask", "seen 2 2 2", "seen 2 2 2", "forget");
    }

    // ---- tests

    private static String firstChange(Supplier<Calls> state, String call) {
        for (int which = 0; which < LOOKS; which++) {
            Calls one = state.get();
            Calls other = state.get();
            one.call(call);
            List<Integer> got = look(one, which);
            List<Integer> want = look(other, which);
            if (!got.equals(want)) {
                return "look " + which + " answered " + got + ", without the call " + want;
            }
        }
        return "";
    }

    /** Calls and the answers that are due, each on a new object in this state, in which it changes nothing. */
    private static void unchanged(Supplier<Calls> state, String script) {
        for (String one : script.split(",")) {
            String call = one.substring(0, one.indexOf(':')).trim();
            state.get().run(one);
            String change = firstChange(state, call);
            Calls.need(change.isEmpty(), call + " changed something: " + change);
        }
    }

    /** Calls that change something: the looks must see it, or they would see nothing in a refused one either. */
    private static void changed(Supplier<Calls> state, String calls) {
        for (String call : calls.split(",")) {
            Calls.need(!firstChange(state, call.trim()).isEmpty(), call.trim() + " changed nothing that is looked at");
        }
    }

    private static void looksSeeChanges() {
        Calls.about("(what the looks see)");
        changed(RefusalTests::busyWithAGoodText, "road, write 59, erase, stage 1, oats 0, shoe 0, lead 0 2, turn 0 1, undo, keep 0, keep 1,"
                + " back 0, back 1, seen 1 1 1, seen 5 5 5, forget, book 0 3, book 0 4, book 2 0, book 3 1, enter 0 3 0 0, enter 0 0 0 -8,"
                + " enter 0 0 3 0, enter 0 1 1 1, enter 0 2 2 2, copy 0 0 1 0 1, copy 0 0 0 1 1, drop 0, drop 3");
        changed(RefusalTests::busyWithAFault, "write 32, erase");
        changed(RefusalTests::fullOfLetters, "erase, road, forget");
        changed(RefusalTests::at995, "stage 4, stage 1");
        changed(RefusalTests::at999, "undo");
    }

    private static void textIsRefused() {
        Calls.about("Promises 2 to 5: a letter, THE TEXT");
        unchanged(RefusalTests::busyWithAFault, "write -1: OUTSIDE, write 256: OUTSIDE, write LOW: OUTSIDE, write HIGH: OUTSIDE, road: NOT,"
                + " fault: 9");
        unchanged(RefusalTests::busyWithAGoodText, "write -1: OUTSIDE, write 256: OUTSIDE, fault: NONE");
        unchanged(RefusalTests::fullOfLetters, "write 0: FULL, write 32: FULL, write 255: FULL, write -1: OUTSIDE, write 256: OUTSIDE, fault: NONE");
        unchanged(RefusalTests::told, "road: NOT, erase: 0, fault: 0");
        unchanged(RefusalTests::oneKept, "road: NOT, fault: 1");
        unchanged(Calls::fresh, "road: NOT, erase: 0, fault: 0, write 256: OUTSIDE");
    }

    private static void tellingIsRefused() {
        Calls.about("Promises 6 to 9: of an HOUR, a RIDER, an INN");
        unchanged(RefusalTests::busyWithAFault, "hour -1 0: UNKNOWN, hour 3 0: UNKNOWN, hour 3 6: UNKNOWN, hour -1 -1: UNKNOWN,"
                + " hour LOW LOW: UNKNOWN, hour HIGH 0: UNKNOWN, hour 2 -1: OUTSIDE, hour 2 6: OUTSIDE, hour 0 HIGH: OUTSIDE, hour 0 LOW: OUTSIDE,"
                + " rider -1 0: UNKNOWN, rider 2 0: UNKNOWN, rider 2 3: UNKNOWN, rider HIGH -1: UNKNOWN, rider 1 -1: OUTSIDE, rider 1 3: OUTSIDE,"
                + " rider 0 HIGH: OUTSIDE, rider 0 LOW: OUTSIDE, inn -1: UNKNOWN, inn 3: UNKNOWN, inn LOW: UNKNOWN, inn HIGH: UNKNOWN,"
                + " as -1 0: UNKNOWN, as 3 0: UNKNOWN, as 3 6: UNKNOWN, as -1 -1: UNKNOWN, as 0 -1: OUTSIDE, as 0 6: OUTSIDE, as 0 HIGH: OUTSIDE,"
                + " as 0 2: NOT, as 1 2: NOT, as 2 3: NOT, as 2 4: NOT, as 0 5: NOT");
        unchanged(RefusalTests::busyWithAFault, "hour 0 0: 0, rider 0 0: 0, inn 2: 2, as 1 0: 3, as 1 3: 3");
        unchanged(Calls::fresh, "hour 0 0: UNKNOWN, hour 0 6: UNKNOWN, rider 0 0: UNKNOWN, rider 0 3: UNKNOWN, inn 0: UNKNOWN, as 0 0: UNKNOWN,"
                + " as 0 6: UNKNOWN");
    }

    private static void doingIsRefused() {
        Calls.about("Promises 10 to 14: STAGES, OATS, SHOES, LED, TURNED");
        unchanged(RefusalTests::busyWithAFault, "stage 0: OUTSIDE, stage 13: OUTSIDE, stage -1: OUTSIDE, stage LOW: OUTSIDE, stage HIGH: OUTSIDE,"
                + " oats -1: UNKNOWN, oats 3: UNKNOWN, oats HIGH: UNKNOWN, oats 1: NOT, shoe -1: UNKNOWN, shoe 3: UNKNOWN, shoe LOW: UNKNOWN,"
                + " shoe 1: NOT, shoe 2: NOT, lead -1 0: UNKNOWN, lead 3 0: UNKNOWN, lead 0 -1: UNKNOWN, lead 0 3: UNKNOWN, lead 3 3: UNKNOWN,"
                + " lead HIGH LOW: UNKNOWN, lead 0 1: NOT, lead 1 0: NOT, lead 2 1: NOT, turn -1 0: UNKNOWN, turn 2 0: UNKNOWN, turn 0 -1: UNKNOWN, turn 0 3: UNKNOWN,"
                + " turn 2 3: UNKNOWN, turn LOW HIGH: UNKNOWN, turn 0 2: NOT, turn 1 0: NOT");
        unchanged(RefusalTests::told, "oats 2: NOT, shoe 0: NOT, lead 0 1: NOT, lead 1 0: NOT, turn 0 0: NOT, turn 1 2: NOT, stage 13: OUTSIDE");
        unchanged(RefusalTests::at995, "stage 5: FULL, stage 12: FULL, stage 0: OUTSIDE, stage 13: OUTSIDE");
        unchanged(RefusalTests::at999, "stage 1: FULL, stage 12: FULL, stage 0: OUTSIDE, stage 13: OUTSIDE, stage -1: OUTSIDE");
        unchanged(Calls::fresh, "stage 0: OUTSIDE, stage 13: OUTSIDE, oats 0: UNKNOWN, shoe 0: UNKNOWN, lead 0 0: UNKNOWN, turn 0 0: UNKNOWN");
    }

    private static void undoingIsRefused() {
        Calls.about("Promises 15 to 17: undone, kept, taken back");
        unchanged(RefusalTests::told, "undo: NOT, back 0: NOT, back 1: NOT, back 2: UNKNOWN, back -1: UNKNOWN, keep 2: UNKNOWN, keep -1: UNKNOWN");
        unchanged(RefusalTests::oneKept, "back 1: NOT, back 2: UNKNOWN, back LOW: UNKNOWN, keep 2: UNKNOWN, keep HIGH: UNKNOWN");
        unchanged(RefusalTests::busyWithAFault, "back 2: UNKNOWN, back -1: UNKNOWN, back HIGH: UNKNOWN, keep 2: UNKNOWN, keep -1: UNKNOWN, keep LOW: UNKNOWN");
        unchanged(Calls::fresh, "undo: NOT, back 0: NOT, back 1: NOT, back 2: UNKNOWN, keep 2: UNKNOWN");
    }

    private static void foretellingChangesNothing() {
        Calls.about("Promises 18 to 24: FORETOLD (nothing changes)");
        unchanged(RefusalTests::busyWithAFault, "given -1: UNKNOWN, given 2: UNKNOWN, given HIGH: UNKNOWN, ahead -1 0 0: UNKNOWN, ahead 3 0 0: UNKNOWN,"
                + " ahead 3 61 3: UNKNOWN, ahead 0 -1 0: OUTSIDE, ahead 0 61 0: OUTSIDE, ahead 0 0 -1: OUTSIDE, ahead 0 0 3: OUTSIDE,"
                + " ahead 0 HIGH 0: OUTSIDE, comes -1 0: UNKNOWN, comes 2 0: UNKNOWN, comes 2 2: UNKNOWN, comes 0 -1: OUTSIDE, comes 0 2: OUTSIDE,"
                + " match 2: UNKNOWN, match -2: UNKNOWN, match LOW: UNKNOWN, fastest -1: UNKNOWN, fastest 2: UNKNOWN, feed -1 1: UNKNOWN,"
                + " feed 2 1: UNKNOWN, feed 2 0: UNKNOWN, feed 2 41: UNKNOWN, feed 0 0: OUTSIDE, feed 0 41: OUTSIDE, feed 0 -1: OUTSIDE,"
                + " feed 0 HIGH: OUTSIDE, falls 10 0 0 0: OUTSIDE, falls -1 0 0 0: OUTSIDE, falls 0 11 0 0: OUTSIDE, falls 0 0 10 0: OUTSIDE,"
                + " falls 0 0 0 2: OUTSIDE");
        unchanged(RefusalTests::told, "given 0: 0, given 1: 1, ahead 0 60 0: 1, ahead 0 1 1: 10, ahead 0 0 2: 0, comes 0 0: 1, comes 0 1: 9,"
                + " comes 1 0: 12, match NONE: 14, match 0: 0, match 1: 1, fastest 0: NONE, fastest 1: NONE, feed 0 1: 0, feed 1 40: 0,"
                + " feed 1 1: NONE, falls 9 3 4 0: 135170451, falls 0 0 9 1: 1");
        unchanged(RefusalTests::at999, "ahead 0 60 0: 0, comes 0 0: NONE, comes 0 1: NONE, feed 0 40: NONE, given 0: NONE,"
                + " match NONE: NONE, match 0: NONE, fastest 0: NONE");
        unchanged(Calls::fresh, "given 0: UNKNOWN, ahead 0 0 0: UNKNOWN, ahead 0 61 0: UNKNOWN, comes 0 0: UNKNOWN, match 0: UNKNOWN, match NONE: 0,"
                + " match -2: UNKNOWN, fastest 0: UNKNOWN, feed 0 1: UNKNOWN, feed 0 0: UNKNOWN, falls 10 0 0 0: OUTSIDE");
    }

    private static void seeingIsRefused() {
        Calls.about("Promises 25 to 28: SEEN");
        String outside = "seen 0 1 1: OUTSIDE, seen 10 1 1: OUTSIDE, seen 1 -1 1: OUTSIDE, seen 1 21 1: OUTSIDE, seen 1 1 -1: OUTSIDE,"
                + " seen 1 1 21: OUTSIDE, seen LOW 1 1: OUTSIDE, seen 1 HIGH 1: OUTSIDE, seen 10 21 21: OUTSIDE";
        unchanged(RefusalTests::busyWithAFault, outside);
        unchanged(RefusalTests::fullOfLetters, outside + ", seen 1 1 1: FULL, seen 5 5 5: FULL, seen 9 20 20: FULL");
        unchanged(Calls::fresh, outside + ", forget: 0, kinds: 31, ask: 1");
        unchanged(RefusalTests::busyWithAFault, "kinds: 3, ask: NONE");
    }

    private static void booksAreRefused() {
        Calls.about("Promises 29 to 31: a BOOK, its LINES");
        unchanged(RefusalTests::busyWithAFault, "book -1 1: UNKNOWN, book 4 1: UNKNOWN, book 4 11: UNKNOWN, book 4 -1: UNKNOWN, book HIGH LOW: UNKNOWN,"
                + " book 0 11: OUTSIDE, book 2 11: OUTSIDE, book 0 HIGH: OUTSIDE, book 0 -1: SIZE, book 2 -1: SIZE, book 3 -1: SIZE, book 0 LOW: SIZE");
        unchanged(RefusalTests::busyWithAFault, "enter -1 0 0 0: UNKNOWN, enter 4 0 0 0: UNKNOWN, enter 4 9 4 0: UNKNOWN, enter 4 0 0 10000: UNKNOWN,"
                + " enter 0 0 1 -1: UNKNOWN, enter 0 0 1 3: UNKNOWN, enter 2 0 1 3: UNKNOWN, enter 0 9 1 3: UNKNOWN, enter 0 0 2 -1: UNKNOWN,"
                + " enter 0 0 2 4: UNKNOWN, enter 2 0 2 4: UNKNOWN, enter 0 9 2 4: UNKNOWN, enter 0 0 4 0: OUTSIDE, enter 0 0 -1 0: OUTSIDE,"
                + " enter 0 0 4 99999: OUTSIDE, enter 2 0 4 0: OUTSIDE, enter 0 9 4 0: OUTSIDE, enter 0 0 0 10000: OUTSIDE,"
                + " enter 0 0 0 -10000: OUTSIDE, enter 2 0 0 10000: OUTSIDE, enter 0 9 0 10000: OUTSIDE, enter 2 0 0 0: NULL, enter 2 -1 0 0: NULL,"
                + " enter 2 0 1 0: NULL, enter 2 0 2 0: NULL, enter 2 99 3 0: NULL, enter 0 4 0 0: INDEX, enter 0 -1 0 0: INDEX, enter 0 4 3 0: INDEX,"
                + " enter 0 4 1 0: INDEX, enter 0 4 2 0: INDEX, enter 3 0 0 0: INDEX, enter 1 2 0 0: INDEX, enter 0 HIGH 0 0: INDEX,"
                + " enter 0 LOW 0 0: INDEX");
        unchanged(RefusalTests::busyWithAFault, "read -1 0 0: UNKNOWN, read 4 0 0: UNKNOWN, read 4 0 3: UNKNOWN, read 0 0 -1: OUTSIDE, read 0 0 3: OUTSIDE,"
                + " read 2 0 3: OUTSIDE, read 0 9 3: OUTSIDE, read 2 0 0: NULL, read 2 -1 1: NULL, read 2 9 2: NULL, read 0 4 0: INDEX, read 0 -1 0: INDEX,"
                + " read 3 0 0: INDEX, read 0 HIGH 0: INDEX, read 0 3 0: EMPTY, read 0 3 1: EMPTY, read 0 3 2: EMPTY, read 0 0 1: CAST, read 0 0 2: CAST,"
                + " read 0 1 0: CAST, read 0 1 2: CAST, read 0 2 0: CAST, read 0 2 1: CAST, read 0 0 0: 49993, read 0 1 1: 2, read 0 2 2: 1");
        unchanged(Calls::fresh, "book 0 -1: SIZE, book 0 11: OUTSIDE, book 4 0: UNKNOWN, enter 0 0 0 0: NULL, enter 0 0 1 0: UNKNOWN, enter 0 0 2 0: NULL,"
                + " read 0 0 0: NULL");
    }

    private static void weighingAndCopyingAreRefused() {
        Calls.about("Promises 32 to 35: weighed, copied, dropped, counted");
        unchanged(RefusalTests::busyWithAFault, "weigh -1 0: UNKNOWN, weigh 4 0: UNKNOWN, weigh 4 2: UNKNOWN, weigh 0 -1: OUTSIDE, weigh 0 2: OUTSIDE,"
                + " weigh 2 2: OUTSIDE, weigh 2 0: NULL, weigh 2 1: NULL, weigh 0 0: 1001023, weigh 0 1: 2, weigh 3 0: 1000000, weigh 3 1: 1");
        unchanged(RefusalTests::busyWithAFault, "copy -1 0 0 0 0: UNKNOWN, copy 4 0 0 0 0: UNKNOWN, copy 0 0 -1 0 0: UNKNOWN, copy 0 0 4 0 0: UNKNOWN,"
                + " copy 4 -1 2 0 -1: UNKNOWN, copy 2 -1 4 0 -1: UNKNOWN, copy 2 0 0 0 0: NULL, copy 0 0 2 0 0: NULL, copy 2 0 2 0 0: NULL,"
                + " copy 2 -1 0 0 0: NULL, copy 0 0 2 0 -1: NULL, copy 0 9 2 9 9: NULL, copy 0 -1 1 0 1: INDEX, copy 0 0 1 -1 1: INDEX,"
                + " copy 0 0 1 0 -1: INDEX, copy 0 0 1 0 3: INDEX, copy 0 3 1 0 2: INDEX, copy 0 0 1 1 2: INDEX, copy 0 5 1 0 0: INDEX,"
                + " copy 0 0 1 3 0: INDEX, copy 0 0 3 0 1: INDEX, copy 3 0 0 0 1: INDEX, copy 0 0 0 1 4: INDEX, copy 0 1 0 0 4: INDEX,"
                + " copy 0 0 0 0 HIGH: INDEX, copy 0 HIGH 0 HIGH HIGH: INDEX, copy 0 0 0 0 LOW: INDEX, copy 0 0 0 0 4: 4, copy 0 4 1 2 0: 0,"
                + " copy 3 0 3 0 0: 0");
        unchanged(RefusalTests::busyWithAFault, "drop -1: UNKNOWN, drop 4: UNKNOWN, drop HIGH: UNKNOWN, drop LOW: UNKNOWN, drop 2: NULL, count -1: OUTSIDE,"
                + " count 11: OUTSIDE, count HIGH: OUTSIDE, count LOW: OUTSIDE, count 0: 3, count 8: 3, count 10: 9");
        unchanged(Calls::fresh, "weigh 0 0: NULL, weigh 0 2: OUTSIDE, copy 0 0 0 0 0: NULL, copy 0 0 4 0 0: UNKNOWN, drop 0: NULL, count 11: OUTSIDE");
    }

    public static void main(String[] args) {
        looksSeeChanges();
        textIsRefused();
        tellingIsRefused();
        doingIsRefused();
        undoingIsRefused();
        foretellingChangesNothing();
        seeingIsRefused();
        booksAreRefused();
        weighingAndCopyingAreRefused();
        Calls.end("refused calls, and calls that change nothing");
    }
}
