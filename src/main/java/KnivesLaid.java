import java.util.Arrays;

/** A round table, how it is laid, and how easy its guests are: see the document's promises 1 to 37. */
public final class KnivesLaid {
    private static final int BEYOND = -1000000001;
    private static final int FULL = -1000000002;
    private static final int KIND = -1000000003;
    private static final int NONE = -1000000004;
    private static final int STATE = -1000000005;
    private static final int MISSING = -1000000006;
    private static final int SIZE = -1000000007;
    private static final int FINDINGS = 7;

    private static final int PLACES = 10;
    private static final int NOBODY = -1;
    private static final int MOST_GUESTS = 8;
    private static final int MOST_HAIRS = 9;
    private static final int MOST_EASE = 99;
    private static final int BELOW_ALL_EASE = -100;
    private static final int BELOW_ALL_MOODS = -1000;
    private static final int MOST_COUNTED = 9999;
    private static final int LAST_COURSE = 99999;

    private static final int KINDS = 6;
    private static final int GUEST = 0;
    private static final int BISHOP = 1;
    private static final int LADY = 2;
    private static final int ENVOY = 3;
    private static final int CARDINAL = 4;
    private static final int BRIDE = 5;

    private static final int MOST_SERVED = 60;
    private static final int FAR_AHEAD = 100;
    private static final int BEST_AHEAD = 40;
    private static final int MOST_WISHED = 999;
    private static final int EASE_SHIFT = 100;
    private static final int MOOD_SHIFT = 10000;

    private static final int TAPE_BYTES = 120;
    private static final int SHEETS = 4;
    private static final int SHEET_NUMBERS = 40;

    private final Table table;
    // All that is tried (ahead, otherwise laid, by a text) is tried here, so that no call makes a table.
    private final Table trial;
    private final Table kept;
    private boolean isKept;
    private final Tape tape;
    private final Sheet[] sheets;
    private final int[] findings;

    public KnivesLaid() {
        table = new Table();
        trial = new Table();
        kept = new Table();
        isKept = false;
        tape = new Tape();
        sheets = new Sheet[SHEETS];
        for (int s = 0; s < SHEETS; s++) {
            sheets[s] = new Sheet();
        }
        findings = new int[FINDINGS];
    }

    // ---- the table

    public int lay(int place, int what, int v) {
        if (!isPlace(place) || what < 0 || what > 2 || !within(v, 0, what == 2 ? MOST_HAIRS : 1)) {
            return found(BEYOND);
        }
        int[] row = what == 0 ? table.knives : what == 1 ? table.forks : table.spoons;
        int was = row[place];
        row[place] = v;
        return was;
    }

    public int place(int place, int what) {
        if (!isPlace(place)) {
            return found(BEYOND);
        }
        switch (what) {
            case 0: return table.knives[place];
            case 1: return table.forks[place];
            case 2: return table.spoons[place];
            case 3: return table.who[place];
            default: return found(BEYOND);
        }
    }

    public int now(int what) {
        switch (what) {
            case 0: return table.course;
            case 1: return table.soreSet() == 0 ? 1 : 0;
            case 2: return table.tellingSet();
            case 3: return table.soreSet();
            case 4: return MOOD_SHIFT + table.easeOfAll();
            case 5: return table.toldOfAll();
            default: return found(BEYOND);
        }
    }

    // ---- guests

    public int guest(int kind, int place) {
        if (!isKind(kind) || !isPlace(place)) {
            return found(BEYOND);
        }
        if (table.guests >= MOST_GUESTS) {
            return found(FULL);
        }
        if (table.who[place] != NOBODY) {
            return found(STATE);
        }
        return table.welcome(kind, place);
    }

    public int of(int guest, int what) {
        if (!table.has(guest)) {
            return found(BEYOND);
        }
        switch (what) {
            case 0: return table.kinds[guest];
            case 1: return table.at[guest];
            case 2: return EASE_SHIFT + table.ease[guest];
            case 3: return table.told[guest];
            case 4: return table.quarrelled[guest];
            case 5: return EASE_SHIFT + table.feeling(guest);
            case 6: return EASE_SHIFT + table.caught(guest);
            case 7: return EASE_SHIFT + Kinds.soreBelow(table.kinds[guest]);
            case 8: return table.neighbours(guest);
            default: return found(BEYOND);
        }
    }

    public int set(int guest, int what, int v) {
        if (!table.has(guest) || what < 2 || what > 4) {
            return found(BEYOND);
        }
        if (what == 2 ? !within(v, -MOST_EASE, MOST_EASE) : !within(v, 0, MOST_COUNTED)) {
            return found(BEYOND);
        }
        int[] row = what == 2 ? table.ease : what == 3 ? table.told : table.quarrelled;
        int was = row[guest];
        row[guest] = v;
        return was;
    }

    public int seat(int guest, int place) {
        if (!table.has(guest) || !isPlace(place)) {
            return found(BEYOND);
        }
        if (!table.freeFor(guest, place)) {
            return found(STATE);
        }
        int was = table.at[guest];
        table.move(guest, place);
        return was;
    }

    public int swap(int guest, int other) {
        if (!table.has(guest) || !table.has(other) || guest == other) {
            return found(BEYOND);
        }
        table.exchange(guest, other);
        return 1;
    }

    public int turn(int guest, int kind) {
        if (!table.has(guest) || !isKind(kind)) {
            return found(BEYOND);
        }
        int was = table.kinds[guest];
        table.kinds[guest] = kind;
        return was;
    }

    public int as(int guest, int kind) {
        if (!table.has(guest) || !isKind(kind)) {
            return found(BEYOND);
        }
        if (!Kinds.isUnder(table.kinds[guest], kind)) {
            return found(KIND);
        }
        return EASE_SHIFT + table.ease[guest];
    }

    // ---- courses

    public int courses(int n) {
        if (!within(n, 1, MOST_SERVED)) {
            return found(BEYOND);
        }
        if (table.course + n > LAST_COURSE) {
            return found(STATE);
        }
        table.serve(n);
        return table.soreSet();
    }

    public int on(int guest, int n, int what) {
        if (!table.has(guest) || !within(n, 0, FAR_AHEAD) || what < 0 || what > 2) {
            return found(BEYOND);
        }
        trial.become(table);
        trial.serve(n);
        return what == 0 ? trial.ease[guest] : what == 1 ? trial.told[guest] : trial.quarrelled[guest];
    }

    public int mood(int n) {
        if (!within(n, 0, FAR_AHEAD)) {
            return found(BEYOND);
        }
        trial.become(table);
        trial.serve(n);
        return trial.easeOfAll();
    }

    public int peace() {
        trial.become(table);
        trial.findMore();
        for (int n = 0; n <= FAR_AHEAD; n++) {
            if (trial.soreSet() == 0) {
                return n;
            }
            trial.serveOne();
        }
        return found(NONE);
    }

    public int tells(int guest) {
        if (!table.has(guest)) {
            return found(BEYOND);
        }
        trial.become(table);
        trial.findMore();
        for (int n = 1; n <= FAR_AHEAD; n++) {
            if (trial.isTelling(guest)) {
                return n;
            }
            trial.serveOne();
        }
        return found(NONE);
    }

    public int quarrels(int guest) {
        if (!table.has(guest)) {
            return found(BEYOND);
        }
        trial.become(table);
        trial.findMore();
        for (int n = 1; n <= FAR_AHEAD; n++) {
            trial.serveOne();
            if (trial.quarrelled[guest] > table.quarrelled[guest]) {
                return n;
            }
        }
        return found(NONE);
    }

    // ---- what is best

    public int best(int guest, int n) {
        if (!table.has(guest) || !within(n, 1, BEST_AHEAD)) {
            return found(BEYOND);
        }
        int bestPlace = table.at[guest];
        int bestEase = BELOW_ALL_EASE;
        for (int place = 0; place < PLACES; place++) {
            if (table.freeFor(guest, place)) {
                trial.become(table);
                trial.move(guest, place);
                trial.serve(n);
                if (trial.ease[guest] > bestEase) {
                    bestEase = trial.ease[guest];
                    bestPlace = place;
                }
            }
        }
        return bestPlace;
    }

    public int laid(int place, int n) {
        if (!isPlace(place) || !within(n, 1, BEST_AHEAD)) {
            return found(BEYOND);
        }
        int bestWay = 0;
        int bestMood = BELOW_ALL_MOODS;
        for (int way = 0; way < 4; way++) {
            trial.become(table);
            trial.knives[place] = way & 1;
            trial.forks[place] = way >> 1;
            trial.serve(n);
            int mood = trial.easeOfAll();
            if (mood > bestMood) {
                bestMood = mood;
                bestWay = way;
            }
        }
        return bestWay;
    }

    public int knife(int n) {
        if (!within(n, 1, BEST_AHEAD)) {
            return found(BEYOND);
        }
        int bestPlace = 0;
        int bestMood = BELOW_ALL_MOODS;
        for (int place = 0; place < PLACES; place++) {
            trial.become(table);
            trial.knives[place] = 1 - trial.knives[place];
            trial.serve(n);
            int mood = trial.easeOfAll();
            if (mood > bestMood) {
                bestMood = mood;
                bestPlace = place;
            }
        }
        return bestPlace;
    }

    public int kind(int guest, int n) {
        if (!table.has(guest) || !within(n, 1, BEST_AHEAD)) {
            return found(BEYOND);
        }
        int bestKind = GUEST;
        int bestEase = BELOW_ALL_EASE;
        for (int kind = 0; kind < KINDS; kind++) {
            trial.become(table);
            trial.kinds[guest] = kind;
            trial.serve(n);
            if (trial.ease[guest] > bestEase) {
                bestEase = trial.ease[guest];
                bestKind = kind;
            }
        }
        return bestKind;
    }

    public int spoon(int place, int n, int v) {
        if (!isPlace(place) || !within(n, 1, BEST_AHEAD) || !within(v, -MOST_WISHED, MOST_WISHED)) {
            return found(BEYOND);
        }
        for (int hairs = MOST_HAIRS; hairs >= 0; hairs--) {
            trial.become(table);
            trial.spoons[place] = hairs;
            trial.serve(n);
            if (trial.easeOfAll() >= v) {
                return hairs;
            }
        }
        return found(NONE);
    }

    public int change(int n) {
        if (!within(n, 1, BEST_AHEAD)) {
            return found(BEYOND);
        }
        trial.become(table);
        trial.serve(n);
        int fewest = trial.quarrelsOfAll();
        int bestPair = NONE;
        for (int one = 0; one < table.guests; one++) {
            for (int other = one + 1; other < table.guests; other++) {
                trial.become(table);
                trial.exchange(one, other);
                trial.serve(n);
                if (trial.quarrelsOfAll() < fewest) {
                    fewest = trial.quarrelsOfAll();
                    bestPair = 10 * one + other;
                }
            }
        }
        return bestPair == NONE ? found(NONE) : bestPair;
    }

    // ---- the text

    public int feed(int bytes, int n) {
        if (!within(n, 1, 4)) {
            return found(BEYOND);
        }
        if (tape.length + n > TAPE_BYTES) {
            return found(FULL);
        }
        for (int i = n - 1; i >= 0; i--) {
            tape.append(bytes >> (8 * i) & 255);
        }
        return tape.length;
    }

    public int wipe() {
        return tape.empty();
    }

    public int dinner() {
        trial.become(table);
        int answer = Dinner.tell(tape, trial);
        if (answer >= 0) {
            table.become(trial);
        }
        tape.empty();
        return answer;
    }

    // ---- sheets

    public int sheet(int s, int bits, int n) {
        if (!isSheet(s) || bits != 0 && bits != 8 && bits != 16 && bits != 64) {
            return found(BEYOND);
        }
        if (n < 0) {
            return found(SIZE);
        }
        if (n > SHEET_NUMBERS) {
            return found(BEYOND);
        }
        sheets[s].begin(bits, n);
        return sheets[s].size;
    }

    public long write(int s, int i, long v) {
        if (!isSheet(s)) {
            return found(BEYOND);
        }
        Sheet sheet = sheets[s];
        if (sheet.isMissing()) {
            return found(MISSING);
        }
        if (!sheet.has(i)) {
            return found(BEYOND);
        }
        long was = sheet.numbers[i];
        sheet.put(i, v);
        return was;
    }

    public int copy(int s, int from, int t, int to, int n) {
        if (!isSheet(s) || !isSheet(t)) {
            return found(BEYOND);
        }
        Sheet source = sheets[s];
        Sheet target = sheets[t];
        if (source.isMissing() || target.isMissing()) {
            return found(MISSING);
        }
        if (source.bits != target.bits) {
            return found(KIND);
        }
        if (!source.hasRun(from, n) || !target.hasRun(to, n)) {
            return found(BEYOND);
        }
        System.arraycopy(source.numbers, from, target.numbers, to, n);
        return n;
    }

    public int lays(int s) {
        if (!isSheet(s)) {
            return found(BEYOND);
        }
        Sheet sheet = sheets[s];
        if (sheet.isMissing()) {
            return found(MISSING);
        }
        int came = 0;
        for (int i = 0; i < sheet.size && i < table.guests; i++) {
            long number = sheet.numbers[i];
            if (number >= -MOST_EASE && number <= MOST_EASE) {
                table.ease[i] = (int) number;
                came++;
            }
        }
        return came;
    }

    public int book(int s, int guest) {
        int finding = findingOfBook(s, guest);
        if (finding != 0) {
            return found(finding);
        }
        Sheet sheet = sheets[s];
        trial.become(table);
        trial.findMore();
        for (int i = 0; i < sheet.size; i++) {
            sheet.put(i, trial.ease[guest]);
            trial.serveOne();
        }
        return sheet.size;
    }

    public int read(int s, int guest) {
        int finding = findingOfBook(s, guest);
        if (finding != 0) {
            return found(finding);
        }
        int pairs = 0;
        for (int kind = 0; kind < KINDS; kind++) {
            for (int hairs = 0; hairs <= MOST_HAIRS; hairs++) {
                trial.become(table);
                trial.kinds[guest] = kind;
                trial.spoons[table.at[guest]] = hairs;
                if (trialGoesAs(sheets[s], guest)) {
                    pairs++;
                }
            }
        }
        return pairs;
    }

    // ---- images

    public int image() {
        kept.become(table);
        isKept = true;
        return 1;
    }

    public int undo() {
        if (!isKept) {
            return found(NONE);
        }
        table.become(kept);
        return table.guests;
    }

    public int tear() {
        int was = isKept ? 1 : 0;
        isKept = false;
        return was;
    }

    public int count(int what) {
        switch (what) {
            case 0: return table.guests;
            case 1: return tape.length;
            case 2: return table.quarrelsOfAll();
            case 3: return table.hairsOfAll();
            default: return found(BEYOND);
        }
    }

    public int status(int which) {
        if (!within(which, -1, FINDINGS - 1)) {
            return found(BEYOND);
        }
        if (which >= 0) {
            return findings[which];
        }
        int all = 0;
        for (int i = 0; i < FINDINGS; i++) {
            all += findings[i];
        }
        return all;
    }

    // ---- what the acts share

    private int found(int finding) {
        int which = BEYOND - finding;
        if (which >= 0 && which < FINDINGS) {
            findings[which]++;
        }
        return finding;
    }

    private int findingOfBook(int s, int guest) {
        if (!isSheet(s)) {
            return BEYOND;
        }
        if (sheets[s].isMissing()) {
            return MISSING;
        }
        return table.has(guest) ? 0 : BEYOND;
    }

    private boolean trialGoesAs(Sheet sheet, int guest) {
        trial.findMore();
        for (int i = 0; i < sheet.size; i++) {
            if (sheet.numbers[i] != trial.ease[guest]) {
                return false;
            }
            trial.serveOne();
        }
        return true;
    }

    private static boolean within(int v, int least, int most) {
        return v >= least && v <= most;
    }

    private static boolean isPlace(int place) {
        return place >= 0 && place < PLACES;
    }

    private static boolean isKind(int kind) {
        return kind >= 0 && kind < KINDS;
    }

    private static boolean isSheet(int s) {
        return s >= 0 && s < SHEETS;
    }

    /** What the kinds feel, catch, tell and are sore at: each is said by the kind above it where it has nothing of its own. */
    private static final class Kinds {
        private Kinds() {
        }

        static int above(int kind) {
            switch (kind) {
                case BISHOP:
                case LADY:
                case ENVOY: return GUEST;
                case CARDINAL: return BISHOP;
                case BRIDE: return LADY;
                default: return -1;
            }
        }

        static boolean isUnder(int kind, int other) {
            int up = kind;
            for (int step = 0; step < KINDS && up >= 0; step++) {
                if (up == other) {
                    return true;
                }
                up = above(up);
            }
            return false;
        }

        static int feels(int kind, int k, int f, int s, int n) {
            int asGuest = (k == 0 ? 2 : -3) + (f == 1 ? -4 : 0);
            int asBishop = asGuest - s;
            int asLady = asGuest + n;
            switch (kind) {
                case BISHOP: return asBishop;
                case LADY: return asLady;
                case ENVOY: return k == 0 && f == 0 && s == 0 ? 1 : -2 * n;
                case CARDINAL: return n == 2 ? 2 * asBishop : asBishop;
                case BRIDE: return f == 1 ? -9 : asLady;
                default: return asGuest;
            }
        }

        static int catches(int kind, int k, int f) {
            int asGuest = k == 1 ? -1 : 0;
            int asLady = asGuest + (f == 0 ? 1 : 0);
            switch (kind) {
                case BISHOP:
                case CARDINAL: return 0;
                case LADY: return asLady;
                case ENVOY: return f == 1 ? -3 : 0;
                case BRIDE: return 2 * asLady;
                default: return asGuest;
            }
        }

        static boolean tellsAt(int kind, int s, int e) {
            switch (kind) {
                case BISHOP: return s > 0;
                case ENVOY: return false;
                case CARDINAL: return s > 0 && e < 0;
                case BRIDE: return e >= 5;
                default: return e >= 20;
            }
        }

        static int soreBelow(int kind) {
            switch (kind) {
                case BISHOP:
                case CARDINAL: return -50;
                case LADY: return -15;
                case ENVOY: return -10;
                case BRIDE: return -5;
                default: return -20;
            }
        }
    }

    /** All that section 1 tells, but for the tape. */
    private static final class Table {
        int course;
        final int[] knives;
        final int[] forks;
        final int[] spoons;
        final int[] who;
        int guests;
        final int[] kinds;
        final int[] at;
        final int[] ease;
        final int[] told;
        final int[] quarrelled;
        // What nothing but laying, seating or turning can change from course to course.
        final int[] more;
        final int[] near;

        Table() {
            course = 0;
            knives = new int[PLACES];
            forks = new int[PLACES];
            spoons = new int[PLACES];
            who = new int[PLACES];
            Arrays.fill(who, NOBODY);
            guests = 0;
            kinds = new int[MOST_GUESTS];
            at = new int[MOST_GUESTS];
            ease = new int[MOST_GUESTS];
            told = new int[MOST_GUESTS];
            quarrelled = new int[MOST_GUESTS];
            more = new int[MOST_GUESTS];
            near = new int[MOST_GUESTS];
        }

        void become(Table other) {
            course = other.course;
            System.arraycopy(other.knives, 0, knives, 0, PLACES);
            System.arraycopy(other.forks, 0, forks, 0, PLACES);
            System.arraycopy(other.spoons, 0, spoons, 0, PLACES);
            System.arraycopy(other.who, 0, who, 0, PLACES);
            guests = other.guests;
            System.arraycopy(other.kinds, 0, kinds, 0, MOST_GUESTS);
            System.arraycopy(other.at, 0, at, 0, MOST_GUESTS);
            System.arraycopy(other.ease, 0, ease, 0, MOST_GUESTS);
            System.arraycopy(other.told, 0, told, 0, MOST_GUESTS);
            System.arraycopy(other.quarrelled, 0, quarrelled, 0, MOST_GUESTS);
        }

        boolean has(int guest) {
            return guest >= 0 && guest < guests;
        }

        boolean freeFor(int guest, int place) {
            return who[place] == NOBODY || who[place] == guest;
        }

        int welcome(int kind, int place) {
            int guest = guests;
            guests++;
            kinds[guest] = kind;
            at[guest] = place;
            ease[guest] = 0;
            told[guest] = 0;
            quarrelled[guest] = 0;
            who[place] = guest;
            return guest;
        }

        void move(int guest, int place) {
            who[at[guest]] = NOBODY;
            at[guest] = place;
            who[place] = guest;
        }

        void exchange(int one, int other) {
            int place = at[one];
            at[one] = at[other];
            at[other] = place;
            who[at[one]] = one;
            who[at[other]] = other;
        }

        void layJustSo(int place, int knife, int fork, int spoon) {
            knives[place] = knife;
            forks[place] = fork;
            spoons[place] = spoon;
        }

        int neighbours(int guest) {
            return bitOf(who[before(at[guest])]) | bitOf(who[behind(at[guest])]);
        }

        private static int bitOf(int guest) {
            return guest == NOBODY ? 0 : 1 << guest;
        }

        private static int before(int place) {
            return place == 0 ? PLACES - 1 : place - 1;
        }

        private static int behind(int place) {
            return place == PLACES - 1 ? 0 : place + 1;
        }

        int feeling(int guest) {
            int place = at[guest];
            int n = Integer.bitCount(neighbours(guest));
            return Kinds.feels(kinds[guest], knives[place], forks[place], spoons[place], n);
        }

        int caught(int guest) {
            int place = at[guest];
            return caughtFrom(guest, before(place)) + caughtFrom(guest, behind(place));
        }

        private int caughtFrom(int guest, int place) {
            return who[place] == NOBODY ? 0 : Kinds.catches(kinds[guest], knives[place], forks[place]);
        }

        boolean isTelling(int guest) {
            return Kinds.tellsAt(kinds[guest], spoons[at[guest]], ease[guest]);
        }

        int tellingSet() {
            int set = 0;
            for (int g = 0; g < guests; g++) {
                if (isTelling(g)) {
                    set |= 1 << g;
                }
            }
            return set;
        }

        int soreSet() {
            int set = 0;
            for (int g = 0; g < guests; g++) {
                if (ease[g] < Kinds.soreBelow(kinds[g])) {
                    set |= 1 << g;
                }
            }
            return set;
        }

        void serve(int n) {
            findMore();
            for (int i = 0; i < n; i++) {
                serveOne();
            }
        }

        // Has to go ahead of serveOne whenever something was laid, seated or turned.
        void findMore() {
            for (int g = 0; g < guests; g++) {
                more[g] = feeling(g) + caught(g);
                near[g] = neighbours(g);
            }
        }

        void serveOne() {
            int telling = tellingSet();
            for (int g = 0; g < guests; g++) {
                ease[g] = Math.max(-MOST_EASE, Math.min(MOST_EASE, ease[g] + more[g]));
                told[g] = Math.min(MOST_COUNTED, told[g] + (telling >> g & 1));
            }
            int sore = soreSet();
            for (int g = 0; g < guests; g++) {
                if ((sore >> g & 1) == 1) {
                    quarrelled[g] = Math.min(MOST_COUNTED, quarrelled[g] + Integer.bitCount(near[g] & sore));
                }
            }
            course++;
        }

        int easeOfAll() {
            return sum(ease, guests);
        }

        int toldOfAll() {
            return sum(told, guests);
        }

        int quarrelsOfAll() {
            return sum(quarrelled, guests);
        }

        int hairsOfAll() {
            return sum(spoons, PLACES);
        }

        private static int sum(int[] row, int n) {
            int all = 0;
            for (int i = 0; i < n && i < row.length; i++) {
                all += row[i];
            }
            return all;
        }
    }

    /** The bytes that a text is told by, and the token that is read of them. */
    private static final class Tape {
        static final int END = 0;
        static final int WORD = 1;
        static final int NUMBER = 2;
        static final int SIGN = 3;
        static final int OTHER = 4;
        // Above every number that may be; longer ones are held to it, so that none wraps round.
        static final int TOO_GREAT = 1000;

        final int[] bytes;
        int length;
        int token;
        int start;
        int end;
        int number;

        Tape() {
            bytes = new int[TAPE_BYTES];
            length = 0;
            rewind();
        }

        void append(int b) {
            if (length < TAPE_BYTES) {
                bytes[length] = b;
                length++;
            }
        }

        int empty() {
            int had = length;
            length = 0;
            return had;
        }

        void rewind() {
            token = END;
            start = 0;
            end = 0;
            number = 0;
        }

        void next() {
            start = end;
            while (start < length && bytes[start] == ' ') {
                start++;
            }
            end = start;
            number = 0;
            token = start < length ? tokenWith(bytes[start]) : END;
            if (token == SIGN || token == OTHER) {
                end = start + 1;
            }
            while ((token == WORD || token == NUMBER) && end < length && tokenWith(bytes[end]) == token) {
                if (token == NUMBER) {
                    number = Math.min(TOO_GREAT, 10 * number + bytes[end] - '0');
                }
                end++;
            }
        }

        private static int tokenWith(int b) {
            if (b >= 'a' && b <= 'z') {
                return WORD;
            }
            if (b >= '0' && b <= '9') {
                return NUMBER;
            }
            return b == ';' ? SIGN : OTHER;
        }

        boolean isWord(String word) {
            if (token != WORD || end - start != word.length()) {
                return false;
            }
            for (int i = 0; i < word.length(); i++) {
                if (bytes[start + i] != word.charAt(i)) {
                    return false;
                }
            }
            return true;
        }

        boolean isNumberBelow(int bound) {
            return token == NUMBER && number < bound;
        }
    }

    /** Tells the text on a tape to a table; wherever an item answers false, the tape's token is the one that can't stand there. */
    private static final class Dinner {
        private Dinner() {
        }

        static int tell(Tape tape, Table table) {
            tape.rewind();
            // An item takes a byte at least, so there are fewer than the tape has bytes.
            for (int items = 1; items <= TAPE_BYTES; items++) {
                tape.next();
                if (!tellItem(tape, table)) {
                    break;
                }
                if (tape.token == Tape.END) {
                    return items;
                }
                if (tape.token != Tape.SIGN) {
                    break;
                }
            }
            return -1 - tape.start;
        }

        private static boolean tellItem(Tape tape, Table table) {
            if (tape.isWord("lay")) {
                return tellLaying(tape, table);
            }
            if (tape.isWord("change")) {
                return tellChange(tape, table);
            }
            int kind = kindNamed(tape);
            return kind >= 0 && table.guests < MOST_GUESTS && tellGuest(tape, table, kind);
        }

        private static int kindNamed(Tape tape) {
            for (int kind = 0; kind < KINDS; kind++) {
                if (tape.isWord(nameOf(kind))) {
                    return kind;
                }
            }
            return -1;
        }

        private static String nameOf(int kind) {
            switch (kind) {
                case BISHOP: return "bishop";
                case LADY: return "lady";
                case ENVOY: return "envoy";
                case CARDINAL: return "cardinal";
                case BRIDE: return "bride";
                default: return "guest";
            }
        }

        private static boolean tellGuest(Tape tape, Table table, int kind) {
            tape.next();
            if (!tape.isNumberBelow(PLACES) || table.who[tape.number] != NOBODY) {
                return false;
            }
            table.welcome(kind, tape.number);
            tape.next();
            return true;
        }

        private static boolean tellLaying(Tape tape, Table table) {
            tape.next();
            if (!tape.isNumberBelow(PLACES)) {
                return false;
            }
            int place = tape.number;
            tape.next();
            int knife = tellPerhaps(tape, "heart");
            int fork = tellPerhaps(tape, "cross");
            int spoon = 0;
            if (tellPerhaps(tape, "spoon") == 1) {
                if (!tape.isNumberBelow(MOST_HAIRS + 1)) {
                    return false;
                }
                spoon = tape.number;
                tape.next();
            }
            table.layJustSo(place, knife, fork, spoon);
            return true;
        }

        private static int tellPerhaps(Tape tape, String word) {
            if (!tape.isWord(word)) {
                return 0;
            }
            tape.next();
            return 1;
        }

        private static boolean tellChange(Tape tape, Table table) {
            tape.next();
            if (!tape.isNumberBelow(table.guests)) {
                return false;
            }
            int one = tape.number;
            tape.next();
            if (!tape.isNumberBelow(table.guests) || tape.number == one) {
                return false;
            }
            table.exchange(one, tape.number);
            tape.next();
            return true;
        }
    }

    /** A row of numbers of some bits; of no bits: it is missing. */
    private static final class Sheet {
        int bits;
        int size;
        final long[] numbers;

        Sheet() {
            bits = 0;
            size = 0;
            numbers = new long[SHEET_NUMBERS];
        }

        void begin(int newBits, int n) {
            bits = newBits;
            size = newBits == 0 ? 0 : n;
            Arrays.fill(numbers, 0L);
        }

        boolean isMissing() {
            return bits == 0;
        }

        boolean has(int i) {
            return i >= 0 && i < size;
        }

        boolean hasRun(int from, int n) {
            return from >= 0 && n >= 0 && n <= size && from <= size - n;
        }

        void put(int i, long v) {
            numbers[i] = bits == 8 ? (byte) v : bits == 16 ? (short) v : v;
        }
    }
}
