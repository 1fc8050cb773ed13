import java.lang.reflect.InvocationTargetException;
import java.lang.reflect.Method;
import java.util.ArrayList;
import java.util.Comparator;
import java.util.List;

/** What the tests of edges share. Each of their methods is one edge that the document names, called by its promise. */
final class Edges {
    static final int BAD = -1, STATE = -2, FULL = -3, NONE = -9, NO = -1000000;
    /** Two pairs of knees of farms 0 and 1, a right one of farm 2; a pair, a left, a right; 0 and 1 do not speak. */
    static final String SMALL = "k0 0 30;k1 0 20;k0 1 12;k1 1 40;k1 2 9;p3 4 3;p1 2 2;p2 1 0;x0 1;o1 5;o2 0;";
    /** As many knees and people as there may be. */
    static final String WHOLE = "k0 0 1;k1 0 60;k0 1 9;k1 1 9;k0 2 9;k1 2 9;k0 3 9;k1 3 9;k1 4 60;"
        + "p3 0 0;p3 0 0;p3 0 0;p3 0 0;p1 20 0;p2 20 20;";

    interface Start {
        KneesLent make();
    }

    interface Call {
        long on(KneesLent x);
    }

    interface CallWith {
        long on(KneesLent x, int number);
    }

    private static final Call[] LATER = laterCalls();

    private Edges() {
    }

    static KneesLent small() {
        return Due.read(SMALL);
    }

    static KneesLent whole() {
        return Due.read(WHOLE);
    }

    /** More than ten deeds, both images, something told and felt and rated, a text begun: all that a call could spoil. */
    static KneesLent busy() {
        KneesLent x = small();
        x.bell();
        x.lends(2, 1);
        x.walks(1, 3, 0);
        x.keep(0);
        x.pledges(3, 1);
        x.lends(0, 0);
        x.bell();
        x.lends(1, 0);
        x.walks(0, 20, 2);
        x.keep(1);
        x.brings(1);
        x.pledges(4, 1);
        x.bell();
        x.pledges(1, 1);
        x.pledges(3, 0);
        x.tells(0, 5, 6);
        x.tells(1, 5, 4);
        x.felt(1, 1);
        x.felt(2, 0);
        x.rate(3, 0);
        Due.typeAll(x, "k0 3 7;p1 1 1;");
        return x;
    }

    /** Busy, but with another text begun. */
    static KneesLent busyWith(String text) {
        KneesLent x = busy();
        x.clear();
        Due.typeAll(x, text);
        return x;
    }

    static String look(KneesLent x) {
        StringBuilder seen = new StringBuilder();
        see(seen, "now", 8, x::now);
        see(seen, "count", 5, x::count);
        see(seen, "downhill", 2, x::downhill);
        see(seen, "rain", 3, x::rain);
        for (int i = 0; i < 9; i++) {
            int k = i;
            see(seen, "knee " + k, 5, what -> x.knee(k, what));
        }
        for (int i = 0; i < 6; i++) {
            int p = i;
            see(seen, "person " + p, 6, what -> x.person(p, what));
        }
        for (int i = 0; i < 5; i++) {
            int f = i;
            see(seen, "farm " + f, 4, what -> x.farm(f, what));
        }
        return seen.append("trace ").append(x.trace()).toString();
    }

    private static void see(StringBuilder seen, String call, int whats, java.util.function.IntUnaryOperator of) {
        seen.append(call);
        for (int what = 0; what < whats; what++) {
            seen.append(' ').append(of.applyAsInt(what));
        }
        seen.append('\n');
    }

    /** By what is done later it shows whether the text, the images and what may be undone are as they were. */
    private static Call[] laterCalls() {
        List<Call> later = new ArrayList<>();
        for (int i = 0; i <= 11; i++) {
            int times = i;
            later.add(x -> undone(x, times));
        }
        later.add(x -> x.back(0));
        later.add(x -> x.back(1));
        later.add(x -> x.parish());
        return later.toArray(new Call[0]);
    }

    private static long undone(KneesLent x, int times) {
        long last = 0;
        for (int i = 0; i < times; i++) {
            last = x.undo();
        }
        return last;
    }

    /** The call answers as due, and all is as on a twin that was not asked. */
    static void changesNothing(String what, Start start, long want, Call call) {
        for (Call later : LATER) {
            KneesLent asked = start.make();
            KneesLent twin = start.make();
            Due.due(what, call.on(asked), want);
            Due.due(what + ", and then a later call", later.on(asked), later.on(twin));
            String seen = look(asked);
            String due = look(twin);
            if (!seen.equals(due)) {
                Due.due(what + " changed\n" + due + "\nto\n" + seen + "\n", 1, 0);
            }
        }
    }

    /** A question answers the same again, and changes nothing. */
    static void onlyAsks(String what, Call call) {
        long answer = call.on(busy());
        changesNothing(what, Edges::busy, answer, call);
        changesNothing(what + " again", Edges::busy, answer, x -> {
            call.on(x);
            return call.on(x);
        });
    }

    /** Numbers from least to most are as told: the next ones on both sides and far ones are refused. */
    static void outside(String what, Start start, long want, int least, int most, CallWith call) {
        int[] numbers = {least - 1, most + 1, Integer.MIN_VALUE, Integer.MAX_VALUE};
        for (int number : numbers) {
            changesNothing(what + " with " + number, start, want, x -> call.on(x, number));
        }
    }

    /** The numbers just inside are not refused. */
    static void inside(String what, Start start, long bad, int least, int most, CallWith call) {
        int[] numbers = {least, most};
        for (int number : numbers) {
            long answer = call.on(start.make(), number);
            Due.due(what + " with " + number + " answered " + answer + ": refused", answer == bad ? 1 : 0, 0);
        }
    }

    static void range(String what, Start start, int least, int most, CallWith call) {
        inside(what, start, BAD, least, most, call);
        outside(what, start, BAD, least, most, call);
    }

    private static List<Method> edgesOf(Class<?> tests) {
        List<Method> edges = new ArrayList<>();
        for (Method m : tests.getDeclaredMethods()) {
            if (m.getName().startsWith("promise")) {
                edges.add(m);
            }
        }
        edges.sort(Comparator.comparing(Method::getName));
        return edges;
    }

    private static void findEachPromise(List<Method> edges, int first, int last) {
        for (int promise = first; promise <= last; promise++) {
            String name = String.format("promise%02d_", promise);
            boolean found = edges.stream().anyMatch(m -> m.getName().startsWith(name));
            Due.due("a test named " + name, found ? 1 : 0, 1);
        }
    }

    /** Runs every method that is named after a promise, and looks whether each promise has one. */
    static void run(Class<?> tests, int first, int last) throws IllegalAccessException, InvocationTargetException {
        List<Method> edges = edgesOf(tests);
        Due.about(tests.getName());
        findEachPromise(edges, first, last);
        for (Method edge : edges) {
            Due.about(edge.getName());
            edge.setAccessible(true);
            edge.invoke(null);
        }
        Due.end();
    }
}
