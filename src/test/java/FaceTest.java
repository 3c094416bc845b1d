import java.lang.management.ManagementFactory;
import java.lang.reflect.Constructor;
import java.lang.reflect.Field;
import java.lang.reflect.Method;
import java.lang.reflect.Modifier;
import java.nio.file.Files;
import java.nio.file.Path;
import java.util.Set;
import java.util.TreeSet;
import java.util.regex.Matcher;
import java.util.regex.Pattern;

/** The public face, what can be seen of LANGUAGE.md from outside and in the text, and the room that calls take. */
public final class FaceTest {
    private static final String[] FACE = {
        "int lay(int,int,int)", "int place(int,int)", "int now(int)", "int guest(int,int)", "int of(int,int)",
        "int set(int,int,int)", "int seat(int,int)", "int swap(int,int)", "int turn(int,int)", "int as(int,int)",
        "int courses(int)", "int on(int,int,int)", "int mood(int)", "int peace()", "int tells(int)", "int quarrels(int)",
        "int best(int,int)", "int laid(int,int)", "int knife(int)", "int kind(int,int)", "int spoon(int,int,int)",
        "int change(int)", "int feed(int,int)", "int wipe()", "int dinner()", "int sheet(int,int,int)",
        "long write(int,int,long)", "int copy(int,int,int,int,int)", "int lays(int)", "int book(int,int)",
        "int read(int,int)", "int image()", "int undo()", "int tear()", "int count(int)", "int status(int)"};
    private static final String[] RULED_OUT = {
        "throw", "throws", "try", "catch", "synchronized", "assert", "System\\.(?!arraycopy)\\w+", "Random", "\\w+Exact",
        "->", "::", "package", "\\bimport (?!java\\.util\\.(Arrays|ArrayList|List);)\\S+", "hashCode", "toString", "static \\{"};

    private static final Run R = new Run("the face");

    public static void main(String[] args) throws Exception {
        face();
        faceOfTheDocument();
        names();
        text();
        room();
        Run.end();
    }

    private static void face() {
        Class<?> c = KnivesLaid.class;
        R.same("public and final", c.getModifiers() & (Modifier.PUBLIC | Modifier.FINAL), Modifier.PUBLIC | Modifier.FINAL);
        Constructor<?>[] made = c.getDeclaredConstructors();
        R.same("constructors", made.length, 1);
        R.same("a public constructor without arguments", made[0].getModifiers() + made[0].getParameterCount(), Modifier.PUBLIC);
        Set<String> open = new TreeSet<>();
        for (Method m : c.getDeclaredMethods()) {
            if (!Modifier.isPrivate(m.getModifiers()) && !m.isSynthetic()) {
                open.add(m.toString().replace("KnivesLaid.", ""));
            }
        }
        Set<String> due = new TreeSet<>();
        for (String m : FACE) {
            due.add("public " + m);
        }
        R.same("methods " + open, open.equals(due) ? 1 : 0, 1);
        for (Field f : c.getDeclaredFields()) {
            R.same("private " + f.getName(), Modifier.isPrivate(f.getModifiers()) ? 1 : 0, 1);
        }
    }

    /** The methods above are the document's, one for one; in a checkout that stands alone there is nothing to compare. */
    private static void faceOfTheDocument() throws Exception {
        Path document = Path.of("../shared/DOC.md");
        if (!Files.isReadable(document)) {
            System.out.println(document + " isn't there: the face is not compared with it");
            return;
        }
        String[] parts = Files.readString(document).split("(?m)^## The public face$|^## Terms$");
        R.same("the document's parts", parts.length, 3);
        Set<String> due = new TreeSet<>(Set.of("public final class KnivesLaid {", "public KnivesLaid();"));
        for (String m : FACE) {
            due.add("public " + m + ";");
        }
        for (String line : parts[1].split("\n")) {
            if (line.contains("public")) {
                String told = line.trim().replaceAll("(int|long) \\w+(?=[,)])", "$1").replace(", ", ",");
                R.same("of the face: " + told, due.remove(told) ? 1 : 0, 1);
            }
        }
        R.same("not of the face: " + due, due.size(), 0);
    }

    private static void names() {
        Set<String> faceNames = new TreeSet<>();
        for (String m : FACE) {
            faceNames.add(m.substring(m.indexOf(' ') + 1, m.indexOf('(')));
        }
        R.same("classes", KnivesLaid.class.getDeclaredClasses().length <= 11 ? 1 : 0, 1);
        for (Class<?> inside : KnivesLaid.class.getDeclaredClasses()) {
            R.same("static " + inside, Modifier.isStatic(inside.getModifiers()) ? 1 : 0, 1);
            R.same("fields of " + inside, inside.getDeclaredFields().length <= 20 ? 1 : 0, 1);
            for (Method m : inside.getDeclaredMethods()) {
                R.same(m + " bears no name of the face", faceNames.contains(m.getName()) ? 1 : 0, 0);
                R.same(m + " has few parameters", m.getParameterCount() <= 7 ? 1 : 0, 1);
            }
        }
        for (Method m : KnivesLaid.class.getDeclaredMethods()) {
            boolean twice = Modifier.isPrivate(m.getModifiers()) && faceNames.contains(m.getName());
            R.same(m + " bears no name of the face", twice ? 1 : 0, 0);
        }
    }

    private static void text() throws Exception {
        String text = Files.readString(Path.of("src/main/java/KnivesLaid.java"));
        String code = text.replaceAll("//[^\n]*", "").replaceAll("(?s)/\\*.*?\\*/", "");
        for (String word : RULED_OUT) {
            String whole = Character.isLetter(word.charAt(0)) ? "\\b" + word + "\\b" : word;
            Matcher m = Pattern.compile(whole).matcher(code);
            boolean there = m.find();
            R.same("ruled out: " + (there ? m.group() : word), there ? 1 : 0, 0);
        }
        R.same("signs of the text", text.chars().allMatch(c -> c == '\n' || c >= 32 && c < 127) ? 1 : 0, 1);
    }

    /** Rows are made in the constructor alone, so that any number of calls takes no more room. */
    private static void room() {
        KnivesLaid x = new KnivesLaid();
        for (int g = 0; g < 8; g++) {
            x.guest(g % 6, g);
        }
        x.sheet(0, 8, 40);
        int warm = dearCalls(x);
        com.sun.management.ThreadMXBean threads = (com.sun.management.ThreadMXBean) ManagementFactory.getThreadMXBean();
        long id = Thread.currentThread().getId();
        long before = threads.getThreadAllocatedBytes(id);
        long asking = threads.getThreadAllocatedBytes(id) - before;
        before = threads.getThreadAllocatedBytes(id);
        int sum = warm;
        for (int i = 0; i < 40; i++) {
            sum += dearCalls(x);
        }
        long taken = threads.getThreadAllocatedBytes(id) - before - asking;
        // The machine may take a little for itself; a row made anew in any of the calls comes to far more.
        R.same("bytes taken by calls whose answers come to " + sum, taken < 1000 ? 0 : taken, 0);
    }

    private static int dearCalls(KnivesLaid x) {
        int sum = x.change(40) + x.best(0, 40) + x.kind(0, 40) + x.knife(40) + x.laid(0, 40) + x.spoon(0, 40, 0);
        sum += x.book(0, 1) + x.read(0, 1) + x.peace() + x.tells(3) + x.quarrels(0) + x.on(0, 100, 0) + x.mood(100);
        sum += x.feed(0x6c617920, 4) + x.feed(0x33, 1) + x.dinner() + x.image() + x.undo() + x.courses(1) + x.sheet(1, 64, 40);
        return sum + x.copy(0, 0, 0, 1, 30) + x.lays(0) + x.of(0, 6) + x.now(3) + x.status(-1) + (int) x.write(0, 1, 2);
    }
}
