import java.lang.reflect.InvocationTargetException;
import java.lang.reflect.Method;
import java.util.HashMap;
import java.util.Map;

/** An object and the calls on it, each written as the document writes it: "dish(0, 9, 1)", "mend(0, true)". */
final class Run {
    private static final int MOST_CALLS = 512;
    private static final int LEAST_ANSWER = -1000000;
    private static final Map<String, Method> FACE = face();
    private static final Map<String, Parsed> PARSED = new HashMap<>();

    private static final class Parsed {
        final Method method;
        final Object[] args;

        Parsed(String call) {
            int open = call.indexOf('(');
            method = FACE.get(call.substring(0, open));
            String inside = call.substring(open + 1, call.length() - 1).trim();
            String[] parts = inside.isEmpty() ? new String[0] : inside.split(",");
            args = new Object[parts.length];
            for (int i = 0; i < parts.length; i++) {
                String p = parts[i].trim();
                args[i] = p.equals("true") || p.equals("false") ? (Object) Boolean.valueOf(p) : Integer.decode(p);
            }
        }
    }

    private final FarDishes x = new FarDishes();
    private final Edges t;
    private int calls = 0;

    Run(Edges t) {
        this.t = t;
    }

    private static Map<String, Method> face() {
        Map<String, Method> face = new HashMap<>();
        for (Method m : FarDishes.class.getDeclaredMethods()) {
            face.put(m.getName(), m);
        }
        return face;
    }

    /** What a call answers; a test that would go beyond the 512th call is wrong itself. */
    int ask(String call) {
        calls++;
        if (calls > MOST_CALLS) {
            throw new IllegalStateException("call " + calls + " of one object: " + call);
        }
        Parsed p = PARSED.computeIfAbsent(call, Parsed::new);
        try {
            return (Integer) p.method.invoke(x, p.args);
        } catch (InvocationTargetException e) {
            throw new IllegalStateException(call, e.getCause());
        } catch (IllegalAccessException e) {
            throw new IllegalStateException(call, e);
        }
    }

    int calls() {
        return calls;
    }

    /** Calls that lead to where a test begins: none of them may answer a finding. */
    Run go(String... them) {
        for (String call : them) {
            int got = ask(call);
            if (got < LEAST_ANSWER) {
                t.due(call + ", on the way", got, 0);
            }
        }
        return this;
    }

    Run due(String call, int want) {
        t.due(call, ask(call), want);
        return this;
    }

    /** The answers to a call with 0, 1, .. in the place of its star. */
    Run dues(String call, int... wants) {
        for (int i = 0; i < wants.length; i++) {
            due(call.replace("*", "" + i), wants[i]);
        }
        return this;
    }

    /** Feeds a text, four bytes a call. */
    Run feed(String text) {
        for (int i = 0; i < text.length(); i += 4) {
            int n = Math.min(4, text.length() - i);
            int bytes = 0;
            for (int k = 0; k < n; k++) {
                bytes = bytes << 8 | text.charAt(i + k) & 255;
            }
            go("feed(" + bytes + ", " + n + ")");
        }
        return this;
    }

    /** A text is read, and all of its ones come. */
    Run asks(String text) {
        return asks(text, text.split(";").length);
    }

    Run asks(String text, int want) {
        feed(text);
        t.due("asks() of '" + text + "'", ask("asks()"), want);
        return this;
    }
}
