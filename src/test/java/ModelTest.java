import java.util.ArrayList;
import java.util.Arrays;
import java.util.List;

/** Long runs of calls of every kind, the same each time, answered by the program and by the model. */
public final class ModelTest {
    private static final int RUNS = 400;
    private static final int CALLS = 512;
    private static final String[] WORDS = {
        "guest", "bishop", "lady", "envoy", "cardinal", "bride", "lay", "lay", "change", "heart", "cross", "spoon", ";", ";", " "};
    private static final int[] ODD = {Integer.MIN_VALUE, Integer.MAX_VALUE, -1, -2, 10, 40, 41, 60, 61, 100, 101, 1000};

    private long seed;
    private final KnivesLaid program = new KnivesLaid();
    private final Model model = new Model();
    private final List<String> told = new ArrayList<>();
    private int wrong = 0;

    private ModelTest(long seed) {
        this.seed = seed;
    }

    public static void main(String[] args) {
        int asked = 0;
        for (int run = 0; run < RUNS; run++) {
            ModelTest test = new ModelTest(run);
            while (test.told.size() < CALLS && test.wrong == 0) {
                test.step();
            }
            asked += test.told.size();
            if (test.wrong > 0) {
                System.out.println("run " + run + ": " + String.join(" ", test.told));
                System.exit(1);
            }
        }
        System.out.println(asked + " answers are as the model's");
    }

    /** One of the numbers from 0 to below n; a counter's multiples, mixed, so that runs are the same each time. */
    private int any(int n) {
        seed = seed * 6364136223846793005L + 1442695040888963407L;
        return (int) Math.floorMod((seed >>> 33) ^ (seed >>> 17), (long) n);
    }

    private int from(int least, int most) {
        return any(25) == 0 ? ODD[any(ODD.length)] : least + any(most - least + 1);
    }

    private void call(String method, long... args) {
        if (told.size() >= CALLS) {
            return;
        }
        long want = Run.call(model, method, args);
        long got = Run.call(program, method, args);
        told.add(method + Arrays.toString(args) + "=" + got);
        if (got != want) {
            wrong++;
            told.add("due is " + want);
        }
    }

    private void step() {
        switch (any(8)) {
            case 0: stepAtTable(); break;
            case 1: stepOfGuests(); break;
            case 2: stepOfGuests(); break;
            case 3: stepOfCourses(); break;
            case 4: stepOfBest(); break;
            case 5: stepOfText(); break;
            case 6: stepOfSheets(); break;
            default: stepOfImages(); break;
        }
    }

    private int one() {
        return any(12) == 0 ? from(-1, 8) : any(Math.max(1, model.count(0)));
    }

    private void stepAtTable() {
        switch (any(4)) {
            case 0:
                call("lay", from(0, 9), 2, from(0, 9));
                break;
            case 1:
                call("lay", from(0, 9), from(0, 2), from(0, 1));
                break;
            case 2:
                call("place", from(0, 9), from(0, 3));
                break;
            default:
                call("now", from(0, 5));
                break;
        }
    }

    private void stepOfGuests() {
        switch (any(8)) {
            case 0: call("guest", from(0, 5), from(0, 9)); break;
            case 1: call("set", one(), 2, from(-99, 99)); break;
            case 2: call("set", one(), from(2, 4), any(3) == 0 ? 9990 + any(12) : from(-5, 30)); break;
            case 3: call("seat", one(), from(0, 9)); break;
            case 4: call("swap", one(), one()); break;
            case 5: call("turn", one(), from(0, 5)); break;
            case 6: call("as", one(), from(0, 5)); break;
            default: call("of", one(), from(0, 8)); break;
        }
    }

    private void stepOfCourses() {
        switch (any(6)) {
            case 0: call("courses", any(4) == 0 ? from(1, 60) : from(1, 6)); break;
            case 1: call("on", one(), from(0, 100), from(0, 2)); break;
            case 2: call("mood", from(0, 100)); break;
            case 3: call("peace"); break;
            case 4: call("tells", one()); break;
            default: call("quarrels", one()); break;
        }
    }

    private void stepOfBest() {
        int n = any(2) == 0 ? from(1, 40) : from(1, 6);
        switch (any(6)) {
            case 0: call("best", one(), n); break;
            case 1: call("laid", from(0, 9), n); break;
            case 2: call("knife", n); break;
            case 3: call("kind", one(), n); break;
            case 4: call("spoon", from(0, 9), n, Math.max(-1001, Math.min(1001, model.mood(Math.floorMod(n, 40)) + any(61) - 40))); break;
            default: call("change", n); break;
        }
    }

    private void stepOfText() {
        if (any(6) == 0) {
            call("feed", any(Integer.MAX_VALUE) - (any(2) == 0 ? 0 : Integer.MAX_VALUE), from(1, 4));
            return;
        }
        if (any(12) == 0) {
            call("wipe");
        }
        String text = any(3) == 0 ? anyText() : rightText();
        for (int i = 0; i < text.length(); i += 4) {
            int bytes = 0;
            int n = Math.min(4, text.length() - i);
            for (int j = 0; j < n; j++) {
                bytes = bytes << 8 | text.charAt(i + j);
            }
            call("feed", bytes, n);
        }
        if (any(10) != 0) {
            call("dinner");
        }
    }

    private String anyText() {
        StringBuilder text = new StringBuilder();
        for (int i = any(8); i >= 0; i--) {
            text.append(any(3) == 0 ? String.valueOf(any(12)) : WORDS[any(WORDS.length)]).append(any(3) == 0 ? "" : " ");
        }
        if (any(8) == 0) {
            text.insert(any(text.length() + 1), (char) any(256));
        }
        return text.toString();
    }

    private String rightText() {
        StringBuilder text = new StringBuilder();
        for (int i = any(4); i >= 0; i--) {
            text.append(rightItem()).append(i > 0 ? any(2) == 0 ? ";" : " ; " : "");
        }
        if (any(12) == 0) {
            text.deleteCharAt(any(text.length()));
        }
        return text.toString();
    }

    private String rightItem() {
        if (any(4) == 0) {
            return WORDS[any(6)] + " " + any(10);
        }
        if (any(3) == 0) {
            int guests = Math.max(2, model.count(0));
            return "change " + any(guests) + " " + any(guests);
        }
        return "lay " + any(10) + (any(3) == 0 ? " heart" : "") + (any(3) == 0 ? " cross" : "")
            + (any(2) == 0 ? " spoon " + any(10) : "");
    }

    private void stepOfSheets() {
        int s = from(0, 3);
        switch (any(10)) {
            case 0:
            case 8:
            case 9: call("sheet", s, new int[] {0, 8, 8, 16, 16, 64, 32}[any(7)], any(6) == 0 ? from(-1, 41) : from(0, 8)); break;
            case 1: call("write", s, from(0, 7), from(-110, 110)); break;
            case 2: call("write", s, from(0, 7), (long) any(Integer.MAX_VALUE) << any(34)); break;
            case 3: call("copy", s, from(0, 4), from(0, 3), from(0, 4), from(0, 4)); break;
            case 4: call("lays", s); break;
            case 5: call("book", s, one()); break;
            case 6: call("read", s, one()); break;
            default: bookAndRead(s, one()); break;
        }
    }

    private void bookAndRead(int s, int guest) {
        call("book", s, guest);
        if (any(2) == 0) {
            call("lay", from(0, 9), 2, from(0, 9));
        }
        call("read", s, guest);
    }

    private void stepOfImages() {
        switch (any(8)) {
            case 0: call("image"); break;
            case 1: call("undo"); break;
            case 2: if (any(4) == 0) { call("tear"); } break;
            case 3: call("count", from(0, 3)); break;
            default: call("status", from(-1, 6)); break;
        }
    }
}
