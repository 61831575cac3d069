/**
 * Hours held by ostlers at the inns along a road, and the riders who ride them.
 * One object is one long day: it is told in texts, done stage by stage, foretold and undone.
 * Every row that a call needs is made with the object, so that no call makes anything.
 */
public final class OstlerHours {
    public static final int NONE = -1, UNKNOWN = -2, OUTSIDE = -3, NOT = -4, FULL = -5;
    public static final int NULL = -11, INDEX = -12, EMPTY = -13, CAST = -14, SIZE = -15;

    private static final int MOST_INNS = 6, MOST_HOURS = 8, MOST_RIDERS = 4;
    private static final int MOST_LETTERS = 200, MOST_CLAUSES = 20, MOST_LETTER = 255;
    private static final int MOST_AT_ONCE = 12, LAST_STAGE = 999;
    private static final int MOST_UNDONE = 8, MOST_KEPT = 2;
    private static final int FORETOLD = 60, MOST_FED_STAGES = 40, MOST_FED = 3;
    private static final int MOST_MILES = 9, MOST_FALLS = 9;
    private static final int MOST_BOOKS = 4, MOST_LINES = 10, MOST_NUMBER = 9999, NUMBER_SHIFT = 50000;

    private final Road told;
    private final Text text;
    private final Parser parser;
    private final Day now;
    private final Day foretold;
    private final Past past;
    private final Day[] kept;
    private final boolean[] isKept;
    private final Pairing pairing;
    private final Sightings sightings;
    private final Shelf shelf;

    public OstlerHours() {
        told = new Road();
        text = new Text();
        parser = new Parser(text);
        now = new Day(told);
        foretold = new Day(told);
        past = new Past(told);
        kept = new Day[MOST_KEPT];
        for (int k = 0; k < kept.length; k++) {
            kept[k] = new Day(told);
        }
        isKept = new boolean[MOST_KEPT];
        pairing = new Pairing();
        sightings = new Sightings();
        shelf = new Shelf();
    }

    // ---- what is told

    public int write(int letter) {
        if (letter < 0 || letter > MOST_LETTER) {
            return OUTSIDE;
        }
        if (text.length >= MOST_LETTERS) {
            return FULL;
        }
        text.append(letter);
        return text.length;
    }

    public int erase() {
        int letters = text.length;
        text.clear();
        return letters;
    }

    public int fault() {
        return parser.findFault(told);
    }

    public int road() {
        if (parser.findFault(told) != NONE) {
            return NOT;
        }
        told.become(parser.draft);
        text.clear();
        beginDay();
        return parser.clauses;
    }

    public int hour(int hour, int what) {
        if (!told.hasHour(hour)) {
            return UNKNOWN;
        }
        switch (what) {
            case 0: return told.kind[hour];
            case 1: return told.home[hour];
            case 2: return now.place[hour];
            case 3: return now.tired[hour];
            case 4: return now.isLame(hour) ? 1 : 0;
            case 5: return now.ridden[hour];
            default: return OUTSIDE;
        }
    }

    public int rider(int rider, int what) {
        if (!told.hasRider(rider)) {
            return UNKNOWN;
        }
        switch (what) {
            case 0: return now.at[rider];
            case 1: return now.to[rider];
            case 2: return now.clock[rider];
            default: return OUTSIDE;
        }
    }

    public int inn(int inn) {
        return told.hasInn(inn) ? told.miles[inn] : UNKNOWN;
    }

    public int as(int hour, int kind) {
        if (!told.hasHour(hour)) {
            return UNKNOWN;
        }
        if (kind < 0 || kind > Kind.LAST_OVER) {
            return OUTSIDE;
        }
        int own = told.kind[hour];
        return Kind.isUnder(own, kind) ? Kind.takes(own, 5) : NOT;
    }

    // ---- what is done

    public int stage(int n) {
        if (n < 1 || n > MOST_AT_ONCE) {
            return OUTSIDE;
        }
        if (now.number + n > LAST_STAGE) {
            return FULL;
        }
        past.remember(now);
        for (int i = 0; i < n; i++) {
            now.passStage();
        }
        return now.number;
    }

    public int oats(int hour) {
        if (!told.hasHour(hour)) {
            return UNKNOWN;
        }
        if (now.tired[hour] == 0) {
            return NOT;
        }
        past.remember(now);
        now.giveOats(hour);
        return now.tired[hour];
    }

    public int shoe(int hour) {
        if (!told.hasHour(hour)) {
            return UNKNOWN;
        }
        if (!now.isLame(hour)) {
            return NOT;
        }
        past.remember(now);
        int tired = now.tired[hour];
        now.giveShoes(hour);
        return tired;
    }

    public int lead(int hour, int inn) {
        if (!told.hasHour(hour) || !told.hasInn(inn)) {
            return UNKNOWN;
        }
        int before = now.place[hour];
        if (before == inn) {
            return NOT;
        }
        past.remember(now);
        now.place[hour] = inn;
        return before;
    }

    public int turn(int rider, int inn) {
        if (!told.hasRider(rider) || !told.hasInn(inn)) {
            return UNKNOWN;
        }
        int before = now.to[rider];
        if (before == inn) {
            return NOT;
        }
        past.remember(now);
        now.to[rider] = inn;
        return before;
    }

    public int undo() {
        if (past.size == 0) {
            return NOT;
        }
        past.restore(now);
        return past.size;
    }

    public int keep(int k) {
        if (k < 0 || k >= MOST_KEPT) {
            return UNKNOWN;
        }
        kept[k].become(now);
        isKept[k] = true;
        return now.number;
    }

    public int back(int k) {
        if (k < 0 || k >= MOST_KEPT) {
            return UNKNOWN;
        }
        if (!isKept[k]) {
            return NOT;
        }
        now.become(kept[k]);
        past.clear();
        return now.number;
    }

    // ---- foretold

    public int given(int rider) {
        if (!told.hasRider(rider)) {
            return UNKNOWN;
        }
        return now.isThere(rider) ? NONE : now.chooseHour(rider, 0);
    }

    public int ahead(int hour, int n, int what) {
        if (!told.hasHour(hour)) {
            return UNKNOWN;
        }
        if (n < 0 || n > FORETOLD || what < 0 || what > 2) {
            return OUTSIDE;
        }
        foretold.become(now);
        for (int i = 0; i < n; i++) {
            foretold.passStage();
        }
        switch (what) {
            case 0: return foretold.place[hour];
            case 1: return foretold.tired[hour];
            default: return foretold.isLame(hour) ? 1 : 0;
        }
    }

    public int comes(int rider, int what) {
        if (!told.hasRider(rider)) {
            return UNKNOWN;
        }
        if (what < 0 || what > 1) {
            return OUTSIDE;
        }
        foretold.become(now);
        int stages = foretold.passUntilThere(rider, FORETOLD);
        return stages == NONE || what == 0 ? stages : foretold.clock[rider];
    }

    public int match(int rider) {
        if (rider != NONE && !told.hasRider(rider)) {
            return UNKNOWN;
        }
        pairing.pair(now);
        if (!pairing.found) {
            return NONE;
        }
        return rider == NONE ? pairing.least : pairing.best[rider];
    }

    public int fastest(int rider) {
        return told.hasRider(rider) ? now.fastestRide(rider) : UNKNOWN;
    }

    public int feed(int rider, int n) {
        if (!told.hasRider(rider)) {
            return UNKNOWN;
        }
        if (n < 1 || n > MOST_FED_STAGES) {
            return OUTSIDE;
        }
        // Oats change nothing for one that is not TIRED: a set with it is never among the fewest.
        int idle = ~now.tiredHours();
        int sets = 1 << told.hours;
        for (int size = 0; size <= MOST_FED; size++) {
            for (int set = 0; set < sets; set++) {
                if (Integer.bitCount(set) == size && (set & idle) == 0 && comesFed(rider, n, set)) {
                    return set;
                }
            }
        }
        return NONE;
    }

    public int falls(int n, int q, int m, int part) {
        if (n < 0 || n > MOST_FALLS || q < 0 || q > Odds.OF || m < 0 || m > MOST_FALLS || part < 0 || part > 1) {
            return OUTSIDE;
        }
        return Odds.ofFalls(n, q, m, part);
    }

    // ---- what was seen

    public int seen(int m, int t, int d) {
        if (m < 1 || m > MOST_MILES || t < 0 || t > Sightings.MOST || d < 0 || d > Sightings.MOST) {
            return OUTSIDE;
        }
        if (sightings.size >= Sightings.ROOM) {
            return FULL;
        }
        sightings.append(m, t, d);
        return sightings.size;
    }

    public int forget() {
        int size = sightings.size;
        sightings.clear();
        return size;
    }

    public int kinds() {
        return sightings.fittingKinds();
    }

    public int ask() {
        return sightings.bestMiles();
    }

    // ---- books

    public int book(int book, int n) {
        if (!shelf.hasPlace(book)) {
            return UNKNOWN;
        }
        if (n > MOST_LINES) {
            return OUTSIDE;
        }
        if (n < 0) {
            return SIZE;
        }
        shelf.books[book].open(n);
        return n;
    }

    public int enter(int book, int i, int what, int v) {
        if (!shelf.hasPlace(book) || what == Book.HOUR && !told.hasHour(v)
                || what == Book.OTHER && !shelf.hasPlace(v)) {
            return UNKNOWN;
        }
        if (what < Book.NUMBER || what > Book.NOTHING
                || what == Book.NUMBER && (v < -MOST_NUMBER || v > MOST_NUMBER)) {
            return OUTSIDE;
        }
        Book open = shelf.books[book];
        if (open.isMissing()) {
            return NULL;
        }
        if (!open.hasLine(i)) {
            return INDEX;
        }
        open.has[i] = what;
        open.value[i] = v;
        return 1;
    }

    public int read(int book, int i, int what) {
        if (!shelf.hasPlace(book)) {
            return UNKNOWN;
        }
        if (what < Book.NUMBER || what > Book.OTHER) {
            return OUTSIDE;
        }
        Book open = shelf.books[book];
        if (open.isMissing()) {
            return NULL;
        }
        if (!open.hasLine(i)) {
            return INDEX;
        }
        if (open.has[i] == Book.NOTHING) {
            return EMPTY;
        }
        if (open.has[i] != what) {
            return CAST;
        }
        return what == Book.NUMBER ? open.value[i] + NUMBER_SHIFT : open.value[i];
    }

    public int weigh(int book, int what) {
        if (!shelf.hasPlace(book)) {
            return UNKNOWN;
        }
        if (what < 0 || what > 1) {
            return OUTSIDE;
        }
        if (shelf.books[book].isMissing()) {
            return NULL;
        }
        int reached = shelf.reachFrom(book);
        return what == 0 ? shelf.weightOf(reached) : Integer.bitCount(reached);
    }

    public int copy(int from, int i, int to, int j, int n) {
        if (!shelf.hasPlace(from) || !shelf.hasPlace(to)) {
            return UNKNOWN;
        }
        Book source = shelf.books[from];
        Book target = shelf.books[to];
        if (source.isMissing() || target.isMissing()) {
            return NULL;
        }
        if (!source.hasLines(i, n) || !target.hasLines(j, n)) {
            return INDEX;
        }
        System.arraycopy(source.has, i, target.has, j, n);
        System.arraycopy(source.value, i, target.value, j, n);
        return n;
    }

    public int drop(int book) {
        if (!shelf.hasPlace(book)) {
            return UNKNOWN;
        }
        Book open = shelf.books[book];
        if (open.isMissing()) {
            return NULL;
        }
        int filled = open.filledLines();
        open.close();
        return filled;
    }

    public int count(int what) {
        switch (what) {
            case 0: return told.inns;
            case 1: return told.hours;
            case 2: return told.riders;
            case 3: return now.number;
            case 4: return now.lame;
            case 5: return now.ridersThere();
            case 6: return now.allClocks();
            case 7: return sightings.size;
            case 8: return shelf.openBooks();
            case 9: return past.size;
            case 10: return text.length;
            default: return OUTSIDE;
        }
    }

    // ---- helpers

    private void beginDay() {
        now.begin();
        past.clear();
        for (int k = 0; k < isKept.length; k++) {
            isKept[k] = false;
        }
        sightings.clear();
        shelf.closeAll();
    }

    private boolean comesFed(int rider, int stages, int set) {
        foretold.become(now);
        for (int h = 0; h < told.hours; h++) {
            if ((set >> h & 1) != 0) {
                foretold.giveOats(h);
            }
        }
        return foretold.passUntilThere(rider, stages) != NONE;
    }

    /** What each KIND does; KINDS are numbers, 0 to 4. */
    private static final class Kind {
        static final int HACK = 0, VICIOUS = 1, DAWN = 2, GREY = 3, MIDNIGHT = 4;
        static final int COUNT = 5, LAST_OVER = 5;
        private static final int AS_HOUR = 0, AS_HACK = 1, AS_GREY = 4;

        static int takes(int kind, int miles) {
            switch (kind) {
                case DAWN: return miles / 2 + 1;
                case GREY:
                case MIDNIGHT: return 2 * miles;
                default: return miles;
            }
        }

        static int tires(int kind, int miles) {
            switch (kind) {
                case DAWN: return 2 * miles;
                case GREY: return 0;
                case MIDNIGHT: return 1;
                default: return miles;
            }
        }

        static int rests(int kind) {
            switch (kind) {
                case VICIOUS: return 3;
                case GREY:
                case MIDNIGHT: return 1;
                default: return 2;
            }
        }

        static boolean isWilling(int kind) {
            return kind != MIDNIGHT;
        }

        static boolean throwsOff(int kind, int ridden) {
            return kind == VICIOUS && ridden % 3 == 0;
        }

        /** The kinds over one another are numbered from HOUR 0, so that each own kind stands 1 higher. */
        static boolean isUnder(int kind, int over) {
            switch (over) {
                case AS_HOUR: return true;
                case AS_HACK: return kind == HACK || kind == VICIOUS || kind == DAWN;
                case AS_GREY: return kind == GREY || kind == MIDNIGHT;
                default: return kind + 1 == over;
            }
        }
    }

    /** What texts have told. */
    private static final class Road {
        int inns;
        int hours;
        int riders;
        final int[] miles = new int[MOST_INNS];
        final int[] kind = new int[MOST_HOURS];
        final int[] home = new int[MOST_HOURS];
        final int[] tired = new int[MOST_HOURS];
        final int[] from = new int[MOST_RIDERS];
        final int[] to = new int[MOST_RIDERS];

        void clear() {
            inns = 0;
            hours = 0;
            riders = 0;
        }

        void become(Road other) {
            inns = other.inns;
            hours = other.hours;
            riders = other.riders;
            System.arraycopy(other.miles, 0, miles, 0, MOST_INNS);
            System.arraycopy(other.kind, 0, kind, 0, MOST_HOURS);
            System.arraycopy(other.home, 0, home, 0, MOST_HOURS);
            System.arraycopy(other.tired, 0, tired, 0, MOST_HOURS);
            System.arraycopy(other.from, 0, from, 0, MOST_RIDERS);
            System.arraycopy(other.to, 0, to, 0, MOST_RIDERS);
        }

        boolean hasInn(int inn) {
            return inn >= 0 && inn < inns;
        }

        boolean hasHour(int hour) {
            return hour >= 0 && hour < hours;
        }

        boolean hasRider(int rider) {
            return rider >= 0 && rider < riders;
        }

        void addInn(int itsMiles) {
            if (inns < MOST_INNS) {
                miles[inns] = itsMiles;
                inns++;
            }
        }

        void addHour(int itsKind, int itsHome, int itsTired) {
            if (hours < MOST_HOURS) {
                kind[hours] = itsKind;
                home[hours] = itsHome;
                tired[hours] = itsTired;
                hours++;
            }
        }

        void addRider(int start, int goal) {
            if (riders < MOST_RIDERS) {
                from[riders] = start;
                to[riders] = goal;
                riders++;
            }
        }

        static int nextInn(int here, int goal) {
            return here + Integer.compare(goal, here);
        }

        /** Between neighbours: MILES stand at the farther INN of the two. */
        int milesBetween(int here, int next) {
            int farther = Math.max(here, next);
            return hasInn(farther) ? miles[farther] : 0;
        }
    }

    /** The letters of THE TEXT, and the token in it that is looked at. */
    private static final class Text {
        static final int END = 0, WORD = 1, DIGITS = 2, SIGN = 3;
        private static final int BLANK = ' ';

        private final int[] letters = new int[MOST_LETTERS];
        private int behind;
        int length;
        int place;
        int sort;

        void append(int letter) {
            if (length < MOST_LETTERS) {
                letters[length] = letter;
                length++;
            }
        }

        void clear() {
            length = 0;
        }

        void firstToken() {
            behind = 0;
            nextToken();
        }

        void nextToken() {
            place = behind;
            while (place < length && letters[place] == BLANK) {
                place++;
            }
            behind = place;
            if (place >= length) {
                sort = END;
                return;
            }
            sort = sortOf(letters[place]);
            behind++;
            while (sort != SIGN && behind < length && sortOf(letters[behind]) == sort) {
                behind++;
            }
        }

        private static int sortOf(int letter) {
            if (letter >= 'a' && letter <= 'z') {
                return WORD;
            }
            return letter >= '0' && letter <= '9' ? DIGITS : SIGN;
        }

        boolean isSemicolon() {
            return sort == SIGN && place < length && letters[place] == ';';
        }

        boolean isWord(String word) {
            if (sort != WORD || behind - place != word.length()) {
                return false;
            }
            for (int i = 0; i < word.length() && place + i < length; i++) {
                if (letters[place + i] != word.charAt(i)) {
                    return false;
                }
            }
            return true;
        }

        /** The number of one digit that stands here, NONE for anything else. */
        int digit() {
            return sort == DIGITS && behind - place == 1 && place < length ? letters[place] - '0' : NONE;
        }
    }

    /** Reads THE TEXT into a draft of the road; the draft tells what is known clause by clause. */
    private static final class Parser {
        private static final int NO_WORD = -1, A_ROAD = 5, AN_INN = 6, A_RIDER = 7;

        private final Text text;
        final Road draft = new Road();
        int clauses;

        Parser(Text text) {
            this.text = text;
        }

        int findFault(Road told) {
            draft.become(told);
            text.firstToken();
            for (clauses = 1; clauses <= MOST_CLAUSES; clauses++) {
                if (!takeClause()) {
                    return text.place;
                }
                if (text.sort == Text.END) {
                    return NONE;
                }
                // Behind the last clause that is allowed no ; can stand, as none can follow it.
                if (!text.isSemicolon() || clauses == MOST_CLAUSES) {
                    return text.place;
                }
                text.nextToken();
            }
            return text.place;
        }

        /** False: the token that is looked at cannot stand there. */
        private boolean takeClause() {
            int word = wordNumber();
            if (word == NO_WORD || isOneTooMany(word)) {
                return false;
            }
            text.nextToken();
            switch (word) {
                case A_ROAD:
                    draft.clear();
                    return true;
                case AN_INN:
                    return takeInn();
                case A_RIDER:
                    return takeRider();
                default:
                    return takeHour(word);
            }
        }

        /** The KIND of an hour's word, or a number above all KINDS. */
        private int wordNumber() {
            if (text.isWord("hack")) {
                return Kind.HACK;
            }
            if (text.isWord("vicious")) {
                return Kind.VICIOUS;
            }
            if (text.isWord("dawn")) {
                return Kind.DAWN;
            }
            if (text.isWord("grey")) {
                return Kind.GREY;
            }
            if (text.isWord("midnight")) {
                return Kind.MIDNIGHT;
            }
            if (text.isWord("road")) {
                return A_ROAD;
            }
            if (text.isWord("inn")) {
                return AN_INN;
            }
            return text.isWord("rider") ? A_RIDER : NO_WORD;
        }

        private boolean isOneTooMany(int word) {
            switch (word) {
                case A_ROAD: return false;
                case AN_INN: return draft.inns >= MOST_INNS;
                case A_RIDER: return draft.riders >= MOST_RIDERS;
                default: return draft.hours >= MOST_HOURS;
            }
        }

        private boolean takeInn() {
            int miles = takeNumber(1, MOST_MILES);
            if (miles == NONE) {
                return false;
            }
            draft.addInn(miles);
            return true;
        }

        private boolean takeHour(int kind) {
            int home = takeNumber(0, draft.inns - 1);
            if (home == NONE) {
                return false;
            }
            int tired = takeNumber(0, 9);
            if (tired == NONE) {
                return false;
            }
            draft.addHour(kind, home, tired);
            return true;
        }

        private boolean takeRider() {
            int start = takeNumber(0, draft.inns - 1);
            if (start == NONE) {
                return false;
            }
            int goal = takeNumber(0, draft.inns - 1);
            if (goal == NONE) {
                return false;
            }
            draft.addRider(start, goal);
            return true;
        }

        /** NONE leaves the token where it is: there the fault is. */
        private int takeNumber(int least, int most) {
            int number = text.digit();
            if (number == NONE || number < least || number > most) {
                return NONE;
            }
            text.nextToken();
            return number;
        }
    }

    /** All HOURS and RIDERS and the STAGE, as they are at one time. */
    private static final class Day {
        private static final int MOST_TIRED = 10, OATS_EASE = 3, SHOD_TIRED = 5, THROWN_CLOCK = 2;
        // More than any is TIRED, so that one that is not WILLING ranks behind all that are.
        private static final int UNWILLING = MOST_TIRED + 1;

        final Road told;
        int number;
        final int[] place = new int[MOST_HOURS];
        final int[] tired = new int[MOST_HOURS];
        final int[] ridden = new int[MOST_HOURS];
        int lame;
        final int[] at = new int[MOST_RIDERS];
        final int[] to = new int[MOST_RIDERS];
        final int[] clock = new int[MOST_RIDERS];

        Day(Road told) {
            this.told = told;
        }

        void begin() {
            number = 0;
            lame = 0;
            for (int h = 0; h < told.hours; h++) {
                place[h] = told.home[h];
                tired[h] = told.tired[h];
                ridden[h] = 0;
            }
            for (int r = 0; r < told.riders; r++) {
                at[r] = told.from[r];
                to[r] = told.to[r];
                clock[r] = 0;
            }
        }

        void become(Day other) {
            number = other.number;
            lame = other.lame;
            System.arraycopy(other.place, 0, place, 0, MOST_HOURS);
            System.arraycopy(other.tired, 0, tired, 0, MOST_HOURS);
            System.arraycopy(other.ridden, 0, ridden, 0, MOST_HOURS);
            System.arraycopy(other.at, 0, at, 0, MOST_RIDERS);
            System.arraycopy(other.to, 0, to, 0, MOST_RIDERS);
            System.arraycopy(other.clock, 0, clock, 0, MOST_RIDERS);
        }

        boolean isLame(int hour) {
            return (lame >> hour & 1) != 0;
        }

        boolean isThere(int rider) {
            return at[rider] == to[rider];
        }

        int ridersThere() {
            int bits = 0;
            for (int r = 0; r < told.riders; r++) {
                if (isThere(r)) {
                    bits |= 1 << r;
                }
            }
            return bits;
        }

        int allClocks() {
            int sum = 0;
            for (int r = 0; r < told.riders; r++) {
                sum += clock[r];
            }
            return sum;
        }

        int tiredHours() {
            int bits = 0;
            for (int h = 0; h < told.hours; h++) {
                if (tired[h] > 0) {
                    bits |= 1 << h;
                }
            }
            return bits;
        }

        void giveOats(int hour) {
            tired[hour] = Math.max(0, tired[hour] - OATS_EASE);
            healIfRested(hour);
        }

        void giveShoes(int hour) {
            lame &= ~(1 << hour);
            tired[hour] = SHOD_TIRED;
        }

        private void healIfRested(int hour) {
            if (tired[hour] == 0) {
                lame &= ~(1 << hour);
            }
        }

        /** What is GIVEN to a rider; spent are the hours (bits) that were RIDDEN in this STAGE. */
        int chooseHour(int rider, int spent) {
            int barred = spent | lame;
            int best = NONE;
            int bestRank = 0;
            for (int h = 0; h < told.hours; h++) {
                if (place[h] == at[rider] && (barred >> h & 1) == 0) {
                    int rank = Kind.isWilling(told.kind[h]) ? tired[h] : tired[h] + UNWILLING;
                    if (best == NONE || rank < bestRank) {
                        best = h;
                        bestRank = rank;
                    }
                }
            }
            return best;
        }

        void passStage() {
            int spent = 0;
            for (int r = 0; r < told.riders; r++) {
                if (!isThere(r)) {
                    spent |= sendOff(r, spent);
                }
            }
            int led = 0;
            for (int inn = 0; inn < told.inns; inn++) {
                led |= leadHome(inn, spent | led);
            }
            for (int h = 0; h < told.hours; h++) {
                if ((spent >> h & 1) == 0) {
                    rest(h);
                }
            }
            number++;
        }

        /** The bit of the hour that is RIDDEN by it, 0 if none is. */
        private int sendOff(int rider, int spent) {
            int hour = chooseHour(rider, spent);
            if (hour == NONE) {
                clock[rider]++;
                return 0;
            }
            ridden[hour]++;
            int kind = told.kind[hour];
            if (Kind.throwsOff(kind, ridden[hour])) {
                clock[rider] += THROWN_CLOCK;
                tire(hour, 1);
            } else {
                int next = Road.nextInn(at[rider], to[rider]);
                int miles = told.milesBetween(at[rider], next);
                at[rider] = next;
                place[hour] = next;
                clock[rider] += Kind.takes(kind, miles);
                tire(hour, Kind.tires(kind, miles));
            }
            return 1 << hour;
        }

        private void tire(int hour, int more) {
            tired[hour] += more;
            if (tired[hour] >= MOST_TIRED) {
                tired[hour] = MOST_TIRED;
                lame |= 1 << hour;
            }
        }

        /** The bit of the hour that is led from an inn, 0 if none is. */
        private int leadHome(int inn, int busy) {
            int barred = busy | lame;
            for (int h = 0; h < told.hours; h++) {
                if (place[h] == inn && told.home[h] != inn && (barred >> h & 1) == 0) {
                    place[h] = Road.nextInn(inn, told.home[h]);
                    return 1 << h;
                }
            }
            return 0;
        }

        private void rest(int hour) {
            int less = isLame(hour) ? 1 : Kind.rests(told.kind[hour]);
            tired[hour] = Math.max(0, tired[hour] - less);
            healIfRested(hour);
        }

        /** How many STAGES it took, at most so many; NONE: he is not there behind them. */
        int passUntilThere(int rider, int most) {
            for (int stages = 0; stages < most; stages++) {
                if (isThere(rider)) {
                    return stages;
                }
                passStage();
            }
            return isThere(rider) ? most : NONE;
        }

        int fastestRide(int rider) {
            int sum = 0;
            int here = at[rider];
            for (int leg = 0; leg < MOST_INNS && here != to[rider]; leg++) {
                int next = Road.nextInn(here, to[rider]);
                int least = leastTaken(here, told.milesBetween(here, next));
                if (least == NONE) {
                    return NONE;
                }
                sum += least;
                here = next;
            }
            return sum;
        }

        private int leastTaken(int inn, int miles) {
            int least = NONE;
            for (int h = 0; h < told.hours; h++) {
                int kind = told.kind[h];
                if (place[h] == inn && !isLame(h) && tired[h] + Kind.tires(kind, miles) < MOST_TIRED) {
                    int takes = Kind.takes(kind, miles);
                    least = least == NONE ? takes : Math.min(least, takes);
                }
            }
            return least;
        }
    }

    /** The days as they were ahead of the last doings: a ring, so that the ninth takes the oldest's room. */
    private static final class Past {
        private final Day[] days = new Day[MOST_UNDONE];
        private int next;
        int size;

        Past(Road told) {
            for (int i = 0; i < days.length; i++) {
                days[i] = new Day(told);
            }
        }

        void remember(Day day) {
            days[next].become(day);
            next = (next + 1) % MOST_UNDONE;
            size = Math.min(size + 1, MOST_UNDONE);
        }

        void clear() {
            size = 0;
        }

        void restore(Day day) {
            if (size > 0) {
                next = (next + MOST_UNDONE - 1) % MOST_UNDONE;
                size--;
                day.become(days[next]);
            }
        }
    }

    /** MATCH: goes through all ways to give each rider an hour of his own. */
    private static final class Pairing {
        private final int[] tried = new int[MOST_RIDERS];
        final int[] best = new int[MOST_RIDERS];
        int least;
        boolean found;

        void pair(Day day) {
            found = false;
            least = 0;
            pairFrom(this, day, 0, 0, 0);
        }

        /** Lesser hours are tried first, so that only a lesser sum may take the place of what was found. */
        private static void pairFrom(Pairing pairing, Day day, int rider, int used, int sum) {
            if (pairing.found && sum >= pairing.least) {
                return;
            }
            if (rider >= day.told.riders || rider >= MOST_RIDERS) {
                pairing.accept(sum);
                return;
            }
            if (day.isThere(rider)) {
                pairing.tried[rider] = NONE;
                pairFrom(pairing, day, rider + 1, used, sum);
                return;
            }
            int here = day.at[rider];
            int miles = day.told.milesBetween(here, Road.nextInn(here, day.to[rider]));
            int barred = used | day.lame;
            for (int h = 0; h < day.told.hours; h++) {
                if (day.place[h] == here && (barred >> h & 1) == 0) {
                    pairing.tried[rider] = h;
                    pairFrom(pairing, day, rider + 1, used | 1 << h, sum + Kind.takes(day.told.kind[h], miles));
                }
            }
        }

        private void accept(int sum) {
            found = true;
            least = sum;
            System.arraycopy(tried, 0, best, 0, MOST_RIDERS);
        }
    }

    /** What was SEEN of an hour of unknown KIND. */
    private static final class Sightings {
        static final int ROOM = 6, MOST = 20;

        private final int[] miles = new int[ROOM];
        private final int[] took = new int[ROOM];
        private final int[] tiredBy = new int[ROOM];
        int size;

        void append(int m, int t, int d) {
            if (size < ROOM) {
                miles[size] = m;
                took[size] = t;
                tiredBy[size] = d;
                size++;
            }
        }

        void clear() {
            size = 0;
        }

        int fittingKinds() {
            int bits = 0;
            for (int kind = 0; kind < Kind.COUNT; kind++) {
                if (fits(kind)) {
                    bits |= 1 << kind;
                }
            }
            return bits;
        }

        private boolean fits(int kind) {
            for (int i = 0; i < size; i++) {
                if (Kind.takes(kind, miles[i]) != took[i] || Kind.tires(kind, miles[i]) != tiredBy[i]) {
                    return false;
                }
            }
            return true;
        }

        int bestMiles() {
            int bits = fittingKinds();
            int best = NONE;
            int least = Integer.bitCount(bits);
            for (int m = 1; m <= MOST_MILES; m++) {
                int alike = greatestPart(bits, m);
                if (alike < least) {
                    least = alike;
                    best = m;
                }
            }
            return best;
        }

        private static int greatestPart(int bits, int m) {
            int greatest = 0;
            for (int kind = 0; kind < Kind.COUNT; kind++) {
                if ((bits >> kind & 1) != 0) {
                    greatest = Math.max(greatest, likeKinds(bits, m, kind));
                }
            }
            return greatest;
        }

        private static int likeKinds(int bits, int m, int kind) {
            int like = 0;
            for (int other = 0; other < Kind.COUNT; other++) {
                if ((bits >> other & 1) != 0 && Kind.takes(other, m) == Kind.takes(kind, m)
                        && Kind.tires(other, m) == Kind.tires(kind, m)) {
                    like++;
                }
            }
            return like;
        }
    }

    /** FALLS. */
    private static final class Odds {
        static final int OF = 10;

        static int ofFalls(int n, int q, int m, int part) {
            long above = 0;
            for (int k = m; k <= n; k++) {
                above += ways(n, k) * power(q, k) * power(OF - q, n - k);
            }
            long below = power(OF, n);
            // Ten to the n has no factors but 2 and 5, n times each.
            for (int i = 0; i < n; i++) {
                if (above % 2 == 0 && below % 2 == 0) {
                    above /= 2;
                    below /= 2;
                }
                if (above % 5 == 0 && below % 5 == 0) {
                    above /= 5;
                    below /= 5;
                }
            }
            return (int) (part == 0 ? above : below);
        }

        private static long ways(int n, int k) {
            long ways = 1;
            for (int i = 0; i < k; i++) {
                ways = ways * (n - i) / (i + 1);
            }
            return ways;
        }

        private static long power(int base, int times) {
            long product = 1;
            for (int i = 0; i < times; i++) {
                product *= base;
            }
            return product;
        }
    }

    /** One BOOK; what a LINE has is numbered as in enter(). */
    private static final class Book {
        static final int NUMBER = 0, HOUR = 1, OTHER = 2, NOTHING = 3;
        private static final int MISSING = -1;

        final int[] has = new int[MOST_LINES];
        final int[] value = new int[MOST_LINES];
        private int lines = MISSING;

        void open(int n) {
            lines = Math.min(n, MOST_LINES);
            for (int i = 0; i < MOST_LINES; i++) {
                has[i] = NOTHING;
            }
        }

        void close() {
            lines = MISSING;
        }

        boolean isMissing() {
            return lines == MISSING;
        }

        boolean hasLine(int i) {
            return i >= 0 && i < lines;
        }

        /** Subtracts, as i + n might be above all ints. */
        boolean hasLines(int i, int n) {
            return i >= 0 && n >= 0 && i <= lines - n;
        }

        int filledLines() {
            int filled = 0;
            for (int i = 0; i < lines; i++) {
                if (has[i] != NOTHING) {
                    filled++;
                }
            }
            return filled;
        }

        int toldBooks() {
            int bits = 0;
            for (int i = 0; i < lines; i++) {
                if (has[i] == OTHER) {
                    bits |= 1 << value[i];
                }
            }
            return bits;
        }

        int ownWeight() {
            int sum = 0;
            for (int i = 0; i < lines; i++) {
                if (has[i] == NUMBER) {
                    sum += value[i];
                } else if (has[i] == HOUR) {
                    sum += 1000;
                }
            }
            return sum;
        }
    }

    /** All BOOKS, those that are missing too. */
    private static final class Shelf {
        private static final int EMPTY_WEIGHT = 1000000;

        final Book[] books = new Book[MOST_BOOKS];

        Shelf() {
            for (int b = 0; b < books.length; b++) {
                books[b] = new Book();
            }
        }

        boolean hasPlace(int book) {
            return book >= 0 && book < MOST_BOOKS;
        }

        void closeAll() {
            for (int b = 0; b < MOST_BOOKS; b++) {
                books[b].close();
            }
        }

        int openBooks() {
            int open = 0;
            for (int b = 0; b < MOST_BOOKS; b++) {
                if (!books[b].isMissing()) {
                    open++;
                }
            }
            return open;
        }

        /** The BOOKS (bits) that one goes through from a BOOK that is there, with it. */
        int reachFrom(int book) {
            int reached = 1 << book;
            // Each round goes one BOOK farther on every way, and no way is longer than all BOOKS.
            for (int round = 1; round < MOST_BOOKS; round++) {
                reached |= toldByAll(reached);
            }
            return reached;
        }

        private int toldByAll(int reached) {
            int told = 0;
            for (int b = 0; b < MOST_BOOKS; b++) {
                if ((reached >> b & 1) != 0) {
                    told |= books[b].toldBooks();
                }
            }
            return withoutMissing(told);
        }

        private int withoutMissing(int bits) {
            int there = bits;
            for (int b = 0; b < MOST_BOOKS; b++) {
                if (books[b].isMissing()) {
                    there &= ~(1 << b);
                }
            }
            return there;
        }

        int weightOf(int reached) {
            int sum = EMPTY_WEIGHT;
            for (int b = 0; b < MOST_BOOKS; b++) {
                if ((reached >> b & 1) != 0) {
                    sum += books[b].ownWeight();
                }
            }
            return sum;
        }
    }
}
