import java.util.ArrayList;
import java.util.Arrays;
import java.util.List;
import java.util.regex.Matcher;
import java.util.regex.Pattern;

/** The document once more, as slow and plain as can be, on other ways than the program's: what runs are compared with. */
final class Model {
    private static final int BEYOND = -1000000001;
    private static final int FULL = -1000000002;
    private static final int KIND = -1000000003;
    private static final int NONE = -1000000004;
    private static final int STATE = -1000000005;
    private static final int MISSING = -1000000006;
    private static final int SIZE = -1000000007;

    /** What a kind does; kinds under it say only what is otherwise. */
    private static class Guest {
        int feels(int k, int f, int s, int n) {
            int more = k == 0 ? 2 : -3;
            if (f == 1) {
                more -= 4;
            }
            return more;
        }

        int catches(int k, int f) {
            return -k;
        }

        boolean tells(int s, int e) {
            return e > 19;
        }

        int sore() {
            return -20;
        }
    }

    private static class Bishop extends Guest {
        int feels(int k, int f, int s, int n) {
            return super.feels(k, f, s, n) - s;
        }

        int catches(int k, int f) {
            return 0;
        }

        boolean tells(int s, int e) {
            return s != 0;
        }

        int sore() {
            return super.sore() - 30;
        }
    }

    private static class Lady extends Guest {
        int feels(int k, int f, int s, int n) {
            return super.feels(k, f, s, n) + n;
        }

        int catches(int k, int f) {
            return super.catches(k, f) + 1 - f;
        }

        int sore() {
            return -15;
        }
    }

    private static class Envoy extends Guest {
        int feels(int k, int f, int s, int n) {
            return k + f + s == 0 ? 1 : -n - n;
        }

        int catches(int k, int f) {
            return -3 * f;
        }

        boolean tells(int s, int e) {
            return false;
        }

        int sore() {
            return super.sore() + 10;
        }
    }

    private static class Cardinal extends Bishop {
        int feels(int k, int f, int s, int n) {
            return super.feels(k, f, s, n) * (n == 2 ? 2 : 1);
        }

        boolean tells(int s, int e) {
            return super.tells(s, e) && e < 0;
        }
    }

    private static class Bride extends Lady {
        int feels(int k, int f, int s, int n) {
            return f == 1 ? -9 : super.feels(k, f, s, n);
        }

        int catches(int k, int f) {
            return 2 * super.catches(k, f);
        }

        boolean tells(int s, int e) {
            return e > 4;
        }

        int sore() {
            return super.sore() + 10;
        }
    }

    private static final List<Guest> KINDS =
        List.of(new Guest(), new Bishop(), new Lady(), new Envoy(), new Cardinal(), new Bride());
    private static final List<String> NAMES = List.of("guest", "bishop", "lady", "envoy", "cardinal", "bride");

    private static final class Person {
        int kind;
        int place;
        int ease;
        int told;
        int quarrels;

        Person(int kind, int place) {
            this.kind = kind;
            this.place = place;
        }

        Person(Person p) {
            this(p.kind, p.place);
            ease = p.ease;
            told = p.told;
            quarrels = p.quarrels;
        }
    }

    private static final class World {
        int course;
        final int[][] laid = new int[10][3];
        final List<Person> people = new ArrayList<>();

        World copy() {
            World w = new World();
            w.course = course;
            for (int p = 0; p < 10; p++) {
                w.laid[p] = laid[p].clone();
            }
            people.forEach(p -> w.people.add(new Person(p)));
            return w;
        }

        int who(int place) {
            for (int g = 0; g < people.size(); g++) {
                if (people.get(g).place == place) {
                    return g;
                }
            }
            return -1;
        }

        List<Integer> beside(int g) {
            List<Integer> all = new ArrayList<>();
            for (int h = 0; h < people.size(); h++) {
                int apart = Math.floorMod(people.get(h).place - people.get(g).place, 10);
                if (apart == 1 || apart == 9) {
                    all.add(h);
                }
            }
            return all;
        }

        int[] at(int g) {
            return laid[people.get(g).place];
        }

        Guest as(int g) {
            return KINDS.get(people.get(g).kind);
        }

        int feels(int g) {
            return as(g).feels(at(g)[0], at(g)[1], at(g)[2], beside(g).size());
        }

        int catches(int g) {
            return beside(g).stream().mapToInt(h -> as(g).catches(at(h)[0], at(h)[1])).sum();
        }

        boolean tells(int g) {
            return as(g).tells(at(g)[2], people.get(g).ease);
        }

        boolean sore(int g) {
            return people.get(g).ease < as(g).sore();
        }

        World goOn(int n) {
            for (int i = 0; i < n; i++) {
                List<Integer> more = new ArrayList<>();
                List<Boolean> telling = new ArrayList<>();
                for (int g = 0; g < people.size(); g++) {
                    more.add(feels(g) + catches(g));
                    telling.add(tells(g));
                }
                for (int g = 0; g < people.size(); g++) {
                    Person p = people.get(g);
                    p.ease = Math.max(-99, Math.min(99, p.ease + more.get(g)));
                    p.told = Math.min(9999, p.told + (telling.get(g) ? 1 : 0));
                }
                for (int g = 0; g < people.size(); g++) {
                    for (int h : beside(g)) {
                        if (sore(g) && sore(h)) {
                            people.get(g).quarrels = Math.min(9999, people.get(g).quarrels + 1);
                        }
                    }
                }
                course++;
            }
            return this;
        }

        int mood() {
            return people.stream().mapToInt(p -> p.ease).sum();
        }

        int quarrels() {
            return people.stream().mapToInt(p -> p.quarrels).sum();
        }

        boolean peace() {
            return soreSet() == 0;
        }

        int soreSet() {
            int set = 0;
            for (int g = 0; g < people.size(); g++) {
                set += sore(g) ? 1 << g : 0;
            }
            return set;
        }

        void swap(int g, int h) {
            int place = people.get(g).place;
            people.get(g).place = people.get(h).place;
            people.get(h).place = place;
        }
    }

    private World w = new World();
    private World image = null;
    private final List<Integer> tape = new ArrayList<>();
    private final long[][] sheets = new long[4][];
    private final int[] bits = new int[4];
    private final int[] counted = new int[7];

    private int find(int finding) {
        counted[BEYOND - finding]++;
        return finding;
    }

    private static boolean in(int v, int from, int to) {
        return from <= v && v <= to;
    }

    private boolean one(int g) {
        return in(g, 0, w.people.size() - 1);
    }

    int lay(int place, int what, int v) {
        if (!in(place, 0, 9) || !in(what, 0, 2) || !in(v, 0, new int[] {1, 1, 9}[what])) {
            return find(BEYOND);
        }
        int was = w.laid[place][what];
        w.laid[place][what] = v;
        return was;
    }

    int place(int place, int what) {
        if (!in(place, 0, 9) || !in(what, 0, 3)) {
            return find(BEYOND);
        }
        return what < 3 ? w.laid[place][what] : w.who(place);
    }

    int now(int what) {
        int telling = 0;
        int told = 0;
        for (int g = 0; g < w.people.size(); g++) {
            telling += w.tells(g) ? 1 << g : 0;
            told += w.people.get(g).told;
        }
        int[] all = {w.course, w.peace() ? 1 : 0, telling, w.soreSet(), 10000 + w.mood(), told};
        return in(what, 0, 5) ? all[what] : find(BEYOND);
    }

    int guest(int kind, int place) {
        if (!in(kind, 0, 5) || !in(place, 0, 9)) {
            return find(BEYOND);
        }
        if (w.people.size() == 8) {
            return find(FULL);
        }
        if (w.who(place) >= 0) {
            return find(STATE);
        }
        w.people.add(new Person(kind, place));
        return w.people.size() - 1;
    }

    int of(int guest, int what) {
        if (!one(guest) || !in(what, 0, 8)) {
            return find(BEYOND);
        }
        Person p = w.people.get(guest);
        int beside = w.beside(guest).stream().mapToInt(h -> 1 << h).sum();
        return new int[] {p.kind, p.place, 100 + p.ease, p.told, p.quarrels, 100 + w.feels(guest), 100 + w.catches(guest),
            100 + w.as(guest).sore(), beside}[what];
    }

    int set(int guest, int what, int v) {
        if (!one(guest) || !in(what, 2, 4) || !(what == 2 ? in(v, -99, 99) : in(v, 0, 9999))) {
            return find(BEYOND);
        }
        Person p = w.people.get(guest);
        int was = what == 2 ? p.ease : what == 3 ? p.told : p.quarrels;
        if (what == 2) {
            p.ease = v;
        } else if (what == 3) {
            p.told = v;
        } else {
            p.quarrels = v;
        }
        return was;
    }

    int seat(int guest, int place) {
        if (!one(guest) || !in(place, 0, 9)) {
            return find(BEYOND);
        }
        if (w.who(place) >= 0 && w.who(place) != guest) {
            return find(STATE);
        }
        int was = w.people.get(guest).place;
        w.people.get(guest).place = place;
        return was;
    }

    int swap(int guest, int other) {
        if (!one(guest) || !one(other) || guest == other) {
            return find(BEYOND);
        }
        w.swap(guest, other);
        return 1;
    }

    int turn(int guest, int kind) {
        if (!one(guest) || !in(kind, 0, 5)) {
            return find(BEYOND);
        }
        int was = w.people.get(guest).kind;
        w.people.get(guest).kind = kind;
        return was;
    }

    int as(int guest, int kind) {
        if (!one(guest) || !in(kind, 0, 5)) {
            return find(BEYOND);
        }
        return KINDS.get(kind).getClass().isInstance(w.as(guest)) ? 100 + w.people.get(guest).ease : find(KIND);
    }

    int courses(int n) {
        if (!in(n, 1, 60)) {
            return find(BEYOND);
        }
        return w.course + n > 99999 ? find(STATE) : w.goOn(n).soreSet();
    }

    int on(int guest, int n, int what) {
        if (!one(guest) || !in(n, 0, 100) || !in(what, 0, 2)) {
            return find(BEYOND);
        }
        Person p = w.copy().goOn(n).people.get(guest);
        return new int[] {p.ease, p.told, p.quarrels}[what];
    }

    int mood(int n) {
        return in(n, 0, 100) ? w.copy().goOn(n).mood() : find(BEYOND);
    }

    int peace() {
        for (int n = 0; n <= 100; n++) {
            if (w.copy().goOn(n).peace()) {
                return n;
            }
        }
        return find(NONE);
    }

    int tells(int guest) {
        if (!one(guest)) {
            return find(BEYOND);
        }
        for (int n = 1; n <= 100; n++) {
            if (w.copy().goOn(n - 1).tells(guest)) {
                return n;
            }
        }
        return find(NONE);
    }

    int quarrels(int guest) {
        if (!one(guest)) {
            return find(BEYOND);
        }
        for (int n = 1; n <= 100; n++) {
            if (w.copy().goOn(n).people.get(guest).quarrels > w.people.get(guest).quarrels) {
                return n;
            }
        }
        return find(NONE);
    }

    int best(int guest, int n) {
        if (!one(guest) || !in(n, 1, 40)) {
            return find(BEYOND);
        }
        List<int[]> all = new ArrayList<>();
        for (int p = 0; p < 10; p++) {
            if (w.who(p) < 0 || w.who(p) == guest) {
                World c = w.copy();
                c.people.get(guest).place = p;
                all.add(new int[] {-c.goOn(n).people.get(guest).ease, p});
            }
        }
        return least(all);
    }

    /** The number of the least, and of several the least number. */
    private static int least(List<int[]> all) {
        return all.stream().min((a, b) -> a[0] != b[0] ? Integer.compare(a[0], b[0]) : Integer.compare(a[1], b[1])).get()[1];
    }

    int laid(int place, int n) {
        if (!in(place, 0, 9) || !in(n, 1, 40)) {
            return find(BEYOND);
        }
        List<int[]> all = new ArrayList<>();
        for (int fork = 0; fork < 2; fork++) {
            for (int knife = 0; knife < 2; knife++) {
                World c = w.copy();
                c.laid[place][0] = knife;
                c.laid[place][1] = fork;
                all.add(new int[] {-c.goOn(n).mood(), knife + 2 * fork});
            }
        }
        return least(all);
    }

    int knife(int n) {
        if (!in(n, 1, 40)) {
            return find(BEYOND);
        }
        List<int[]> all = new ArrayList<>();
        for (int p = 0; p < 10; p++) {
            World c = w.copy();
            c.laid[p][0] ^= 1;
            all.add(new int[] {-c.goOn(n).mood(), p});
        }
        return least(all);
    }

    int kind(int guest, int n) {
        if (!one(guest) || !in(n, 1, 40)) {
            return find(BEYOND);
        }
        List<int[]> all = new ArrayList<>();
        for (int kind = 0; kind < 6; kind++) {
            World c = w.copy();
            c.people.get(guest).kind = kind;
            all.add(new int[] {-c.goOn(n).people.get(guest).ease, kind});
        }
        return least(all);
    }

    int spoon(int place, int n, int v) {
        if (!in(place, 0, 9) || !in(n, 1, 40) || !in(v, -999, 999)) {
            return find(BEYOND);
        }
        int greatest = -1;
        for (int s = 0; s <= 9; s++) {
            World c = w.copy();
            c.laid[place][2] = s;
            greatest = c.goOn(n).mood() >= v ? s : greatest;
        }
        return greatest < 0 ? find(NONE) : greatest;
    }

    int change(int n) {
        if (!in(n, 1, 40)) {
            return find(BEYOND);
        }
        int asItIs = w.copy().goOn(n).quarrels();
        List<int[]> all = new ArrayList<>();
        for (int h = 0; h < w.people.size(); h++) {
            for (int g = 0; g < h; g++) {
                World c = w.copy();
                c.swap(g, h);
                int then = c.goOn(n).quarrels();
                if (then < asItIs) {
                    all.add(new int[] {then, 10 * g + h});
                }
            }
        }
        return all.isEmpty() ? find(NONE) : least(all);
    }

    int feed(int bytes, int n) {
        if (!in(n, 1, 4)) {
            return find(BEYOND);
        }
        if (tape.size() + n > 120) {
            return find(FULL);
        }
        byte[] four = java.nio.ByteBuffer.allocate(4).putInt(bytes).array();
        for (int i = 4 - n; i < 4; i++) {
            tape.add(four[i] & 255);
        }
        return tape.size();
    }

    int wipe() {
        int had = tape.size();
        tape.clear();
        return had;
    }

    private static final Pattern TOKEN = Pattern.compile("[a-z]+|[0-9]+|.", Pattern.DOTALL);

    int dinner() {
        StringBuilder text = new StringBuilder();
        tape.forEach(b -> text.append((char) (int) b));
        tape.clear();
        List<String> tokens = new ArrayList<>();
        List<Integer> starts = new ArrayList<>();
        Matcher m = TOKEN.matcher(text);
        while (m.find()) {
            if (!m.group().equals(" ")) {
                tokens.add(m.group());
                starts.add(m.start());
            }
        }
        tokens.add("");
        starts.add(text.length());
        World c = w.copy();
        int at = 0;
        for (int items = 1; ; items++) {
            int used = item(c, tokens.subList(at, tokens.size()));
            if (used < 0) {
                return -1 - starts.get(at - used - 1);
            }
            at += used;
            if (tokens.get(at).isEmpty()) {
                w = c;
                return items;
            }
            if (!tokens.get(at).equals(";")) {
                return -1 - starts.get(at);
            }
            at++;
        }
    }

    /** How many tokens an item takes; -1 less the number of the one that can't stand there. */
    private static int item(World c, List<String> t) {
        int kind = NAMES.indexOf(t.get(0));
        if (kind >= 0) {
            if (c.people.size() == 8) {
                return -1;
            }
            int place = number(t.get(1), 10);
            if (place < 0 || c.who(place) >= 0) {
                return -2;
            }
            c.people.add(new Person(kind, place));
            return 2;
        }
        if (t.get(0).equals("change")) {
            int g = number(t.get(1), c.people.size());
            if (g < 0) {
                return -2;
            }
            int h = number(t.get(2), c.people.size());
            if (h < 0 || h == g) {
                return -3;
            }
            c.swap(g, h);
            return 3;
        }
        return t.get(0).equals("lay") ? laying(c, t) : -1;
    }

    private static int laying(World c, List<String> t) {
        int place = number(t.get(1), 10);
        if (place < 0) {
            return -2;
        }
        int[] laid = new int[3];
        int at = 2;
        if (t.get(at).equals("heart")) {
            laid[0] = 1;
            at++;
        }
        if (t.get(at).equals("cross")) {
            laid[1] = 1;
            at++;
        }
        if (t.get(at).equals("spoon")) {
            laid[2] = number(t.get(at + 1), 10);
            at += 2;
            if (laid[2] < 0) {
                return -at;
            }
        }
        c.laid[place] = laid;
        return at;
    }

    private static int number(String token, int below) {
        if (!token.matches("[0-9]+")) {
            return -1;
        }
        java.math.BigInteger v = new java.math.BigInteger(token);
        return v.compareTo(java.math.BigInteger.valueOf(below)) < 0 ? v.intValue() : -1;
    }

    int sheet(int s, int b, int n) {
        if (!in(s, 0, 3) || !List.of(0, 8, 16, 64).contains(b)) {
            return find(BEYOND);
        }
        if (n < 0) {
            return find(SIZE);
        }
        if (n > 40) {
            return find(BEYOND);
        }
        sheets[s] = b == 0 ? null : new long[n];
        bits[s] = b;
        return b == 0 ? 0 : n;
    }

    private long cut(int s, long v) {
        return v << (64 - bits[s]) >> (64 - bits[s]);
    }

    long write(int s, int i, long v) {
        if (!in(s, 0, 3)) {
            return find(BEYOND);
        }
        if (sheets[s] == null) {
            return find(MISSING);
        }
        if (!in(i, 0, sheets[s].length - 1)) {
            return find(BEYOND);
        }
        long was = sheets[s][i];
        sheets[s][i] = cut(s, v);
        return was;
    }

    int copy(int s, int from, int t, int to, int n) {
        if (!in(s, 0, 3) || !in(t, 0, 3)) {
            return find(BEYOND);
        }
        if (sheets[s] == null || sheets[t] == null) {
            return find(MISSING);
        }
        if (bits[s] != bits[t]) {
            return find(KIND);
        }
        if (from < 0 || to < 0 || n < 0 || (long) from + n > sheets[s].length || (long) to + n > sheets[t].length) {
            return find(BEYOND);
        }
        long[] all = Arrays.copyOfRange(sheets[s], from, from + n);
        for (int i = 0; i < n; i++) {
            sheets[t][to + i] = all[i];
        }
        return n;
    }

    int lays(int s) {
        if (!in(s, 0, 3)) {
            return find(BEYOND);
        }
        if (sheets[s] == null) {
            return find(MISSING);
        }
        int came = 0;
        for (int i = 0; i < sheets[s].length; i++) {
            if (one(i) && Math.abs(sheets[s][i]) <= 99 && sheets[s][i] != Long.MIN_VALUE) {
                w.people.get(i).ease = (int) sheets[s][i];
                came++;
            }
        }
        return came;
    }

    int book(int s, int guest) {
        if (!in(s, 0, 3)) {
            return find(BEYOND);
        }
        if (sheets[s] == null) {
            return find(MISSING);
        }
        if (!one(guest)) {
            return find(BEYOND);
        }
        for (int i = 0; i < sheets[s].length; i++) {
            sheets[s][i] = w.copy().goOn(i).people.get(guest).ease;
        }
        return sheets[s].length;
    }

    int read(int s, int guest) {
        if (!in(s, 0, 3)) {
            return find(BEYOND);
        }
        if (sheets[s] == null) {
            return find(MISSING);
        }
        if (!one(guest)) {
            return find(BEYOND);
        }
        int pairs = 0;
        for (int kind = 0; kind < 6; kind++) {
            for (int spoon = 0; spoon < 10; spoon++) {
                World c = w.copy();
                c.people.get(guest).kind = kind;
                c.at(guest)[2] = spoon;
                boolean so = true;
                for (int i = 0; i < sheets[s].length; i++) {
                    so &= c.people.get(guest).ease == sheets[s][i];
                    c.goOn(1);
                }
                pairs += so ? 1 : 0;
            }
        }
        return pairs;
    }

    int image() {
        image = w.copy();
        return 1;
    }

    int undo() {
        if (image == null) {
            return find(NONE);
        }
        w = image.copy();
        return w.people.size();
    }

    int tear() {
        int was = image == null ? 0 : 1;
        image = null;
        return was;
    }

    int count(int what) {
        int spoons = Arrays.stream(w.laid).mapToInt(l -> l[2]).sum();
        return in(what, 0, 3) ? new int[] {w.people.size(), tape.size(), w.quarrels(), spoons}[what] : find(BEYOND);
    }

    int status(int which) {
        if (!in(which, -1, 6)) {
            return find(BEYOND);
        }
        return which == -1 ? Arrays.stream(counted).sum() : counted[which];
    }
}
