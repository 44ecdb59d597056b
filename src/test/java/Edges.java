import java.lang.reflect.InvocationTargetException;
import java.lang.reflect.Method;
import java.util.Arrays;
import java.util.Comparator;

/**
 * What the tests of boundary cases share. Each test is a method without arguments whose name begins with
 * p and the two digits of its promise, and starts with the sentence of the document that it looks at.
 */
abstract class Edges {
    static final int BAD = -1;
    static final int NOT_POSSIBLE = -2;
    static final int LIMIT = -3;
    static final int NONE = -4;
    static final int LEAST = Integer.MIN_VALUE;
    static final int MOST = Integer.MAX_VALUE;
    private static final Dues dues = new Dues();
    private static String now = "";

    /** Runs all tests of a class, found by their names so that none is left out, and ends the program. */
    static void runAll(Class<?> tests, int firstPromise, int lastPromise) {
        Method[] methods = tests.getDeclaredMethods();
        Arrays.sort(methods, Comparator.comparing(Method::getName));
        int[] found = new int[27];
        for (Method method : methods) {
            if (method.getName().matches("p[0-9][0-9]\\w*")) {
                found[Integer.parseInt(method.getName().substring(1, 3))]++;
                run(method);
            }
        }
        for (int promise = firstPromise; promise <= lastPromise; promise++) {
            dues.due("promise " + promise + " has tests", found[promise] > 0 ? 1 : 0, 1);
        }
        dues.end();
    }

    private static void run(Method method) {
        now = method.getName();
        method.setAccessible(true);
        try {
            method.invoke(null);
        } catch (InvocationTargetException e) {
            due("no exception, but there was " + e.getCause(), 1, 0);
        } catch (IllegalAccessException e) {
            due("can't be called", 1, 0);
        }
    }

    /** The words of the document that the test looks at. */
    static void sentence(String words) {
        now = now.substring(0, 3) + " \"" + words + "\"";
    }

    static void due(String call, long got, long want) {
        dues.due(now + ": " + call, got, want);
    }

    static void dueDouble(String call, double got, double want) {
        dues.dueDouble(now + ": " + call, got, want);
    }

    static void same(String what, String got, String want) {
        due(what + (got.equals(want) ? "" : " (" + got + ", before: " + want + ")"), got.equals(want) ? 1 : 0, 1);
    }

    static void write(SonMarks x, String text) {
        for (int i = 0; i < text.length(); i++) {
            due("append to " + text.substring(0, i), x.append(text.charAt(i)) > 0 ? 1 : 0, 1);
        }
    }

    /** Enrols a text, of which so many deeds are due to be done. */
    static void enrols(SonMarks x, String text, int done) {
        write(x, text);
        due("enrol() of " + text, x.enrol(), done);
    }

    /** A new object with the deeds of these texts, all of which must be done. */
    static SonMarks roll(String... texts) {
        SonMarks x = new SonMarks();
        for (String text : texts) {
            enrols(x, text, text.split(";").length);
        }
        return x;
    }

    /** So many founders, number i with the shield 31 i. */
    static SonMarks founders(int persons) {
        SonMarks x = new SonMarks();
        for (int i = 0; i < persons; i++) {
            due("found(" + 31 * i + ")", x.found(31 * i), 10 + i);
        }
        return x;
    }

    /** Each person but the founder is the son of the one before; the places are changed by turns, to 1, then to 2. */
    static SonMarks chain(int persons) {
        SonMarks x = new SonMarks();
        due("found(0)", x.found(0), 10);
        for (int i = 1; i < persons; i++) {
            due("bear", x.bear(i - 1, (i - 1) % 6, 1 + (i - 1) / 6), 10 + i);
        }
        return x;
    }

    /** 20 persons: 0, his sons 1 to 4, and their sons 5 to 8, 9 to 12, 13 to 16, and 17 to 19. */
    static SonMarks tribe() {
        SonMarks x = roll("f000000;s0.0=1;s0.1=1;s0.2=1;s0.3=1");
        int[] places = {4, 5, 0, 1};
        for (int i = 0; i < 15; i++) {
            due("bear", x.bear(1 + i / 4, places[i / 4], 1 + i % 4), 15 + i);
        }
        return x;
    }

    /** What undo() and restore() bring back: 10 calls, and 12 more for each person. */
    static String state(SonMarks x) {
        StringBuilder all = new StringBuilder("counts");
        for (int what = 0; what < 10; what++) {
            all.append(' ').append(x.count(what));
        }
        for (int person = 0; person < x.count(0); person++) {
            all.append(" person ").append(person).append(':');
            for (int what = 0; what < 12; what++) {
                all.append(' ').append(x.person(person, what));
            }
        }
        return all.toString();
    }

    /** All that can be told of an object without a change. */
    static String told(SonMarks x) {
        StringBuilder all = new StringBuilder(state(x));
        all.append(" pad ").append(x.count(10)).append(" states ").append(x.count(11)).append(" fault ").append(x.fault());
        for (int what = 0; what < 3; what++) {
            all.append(" why ").append(x.why(what));
        }
        return all.toString();
    }
}
