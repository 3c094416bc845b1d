import java.lang.reflect.InvocationTargetException;
import java.lang.reflect.Method;

/** A run of calls on a new object, each written as it stands in a program, with the answer that is due. */
final class Run {
    static final int BEYOND = -1000000001;
    static final int FULL = -1000000002;
    static final int KIND = -1000000003;
    static final int NONE = -1000000004;
    static final int STATE = -1000000005;
    static final int MISSING = -1000000006;
    static final int SIZE = -1000000007;

    private static int asked = 0;
    private static int wrong = 0;

    private final String name;
    private final KnivesLaid x = new KnivesLaid();

    Run(String name) {
        this.name = name;
    }

    Run due(String call, long want) {
        return same(call, ask(call), want);
    }

    Run same(String what, long got, long want) {
        asked++;
        if (got != want) {
            wrong++;
            System.out.println(name + ": " + what + " answered " + got + ", due is " + want);
        }
        return this;
    }

    /** Makes calls whose answers are asked elsewhere. */
    Run after(String... calls) {
        for (String call : calls) {
            ask(call);
        }
        return this;
    }

    long ask(String call) {
        int open = call.indexOf('(');
        String inside = call.substring(open + 1, call.lastIndexOf(')')).trim();
        String[] words = inside.isEmpty() ? new String[0] : inside.split("\\s*,\\s*");
        long[] args = new long[words.length];
        for (int i = 0; i < words.length; i++) {
            args[i] = Long.parseLong(words[i]);
        }
        return call(x, call.substring(0, open), args);
    }

    Run feed(String text) {
        for (int i = 0; i < text.length(); i++) {
            x.feed(text.charAt(i), 1);
        }
        return this;
    }

    Run dinner(String text, long want) {
        feed(text);
        return same("dinner() of \"" + text + "\"", x.dinner(), want).due("count(1)", 0);
    }

    static long call(Object on, String method, long... args) {
        for (Method m : on.getClass().getDeclaredMethods()) {
            if (m.getName().equals(method) && m.getParameterCount() == args.length) {
                return invoke(m, on, args);
            }
        }
        throw new IllegalArgumentException(method + " with " + args.length + " arguments");
    }

    private static long invoke(Method m, Object on, long[] args) {
        Object[] given = new Object[args.length];
        for (int i = 0; i < args.length; i++) {
            given[i] = m.getParameterTypes()[i] == long.class ? (Object) args[i] : (Object) Math.toIntExact(args[i]);
        }
        try {
            return ((Number) m.invoke(on, given)).longValue();
        } catch (InvocationTargetException e) {
            throw new IllegalStateException(m.getName() + java.util.Arrays.toString(args), e.getCause());
        } catch (IllegalAccessException e) {
            throw new IllegalStateException(e);
        }
    }

    static void end() {
        System.out.println(wrong == 0 ? asked + " answers are as due" : wrong + " of " + asked + " answers are not as due");
        if (wrong != 0) {
            System.exit(1);
        }
    }
}
