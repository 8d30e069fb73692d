import java.lang.reflect.InvocationTargetException;
import java.lang.reflect.Method;
import java.util.ArrayList;
import java.util.Comparator;
import java.util.List;

/**
 * What the tests of edges use: lands and laws from texts, answers that are due, and refusals with what is counted
 * for them and what stays as it was. A test is a static method named after its promise: promise07_whatItLooksAt.
 */
final class Edge {
    static final int INDEX = 0;
    static final int ELEMENT = 1;
    static final int ARGUMENT = 2;
    static final int STATE = 3;

    /** An end, a hut and two who want different things; 0 leads hours 0 and 2, 1 leads hour 1. */
    static final String SMALL = "place;place end;place hut;way 0 1;way 0 2;way 2 1;person 1;person 0;"
            + "wants 0 1 10;wants 1 2 5;hours 3;store 3;lost 7;start 0;";

    /**
     * Two hours, one each: 0 dares not go from 0 to 1 in the first, for in the second 1 would go on to 2, best for
     * himself, and not to 3, good for both.
     */
    static final String DARE = "place;place;place;place;way 0 1;way 1 2;way 1 3;person 0;person 0;"
            + "wants 0 0 3;wants 1 0 3;wants 1 2 10;wants 0 3 8;wants 1 3 8;hours 2;";

    private static final int[] EXTREMES = {Integer.MIN_VALUE, Integer.MAX_VALUE};
    private static final Class<?>[] REASONS = {IndexOutOfBoundsException.class, java.util.NoSuchElementException.class,
        IllegalArgumentException.class, IllegalStateException.class};

    private static String test = "";
    private static int wrong = 0;

    interface Call {
        long of(GlassLeaders g);
    }

    interface Made {
        GlassLeaders make();
    }

    /** A call with one argument left open. */
    interface Asked {
        long of(GlassLeaders g, int argument);
    }

    private Edge() {
    }

    static void due(String what, long got, long want) {
        if (got != want) {
            wrong++;
            System.out.println(test + ": " + what + " answered " + got + ", due is " + want);
        }
    }

    static void due(String what, String got, String want) {
        if (!got.equals(want)) {
            wrong++;
            System.out.println(test + ": " + what + " is\n" + got + "\ndue is\n" + want);
        }
    }

    static String times(int n, String clause) {
        return clause.repeat(n);
    }

    /** Puts a text on the tape, filled up with blanks to the next twenty bytes; how many bytes there are. */
    static int feed(GlassLeaders g, String text) {
        int there = g.count(2);
        for (int at = 0; at < text.length(); at += 20) {
            int[] five = new int[5];
            for (int i = 0; i < 20; i++) {
                five[i / 4] = five[i / 4] << 8 | (at + i < text.length() ? text.charAt(at + i) : ' ');
            }
            there = g.feed(five[0], five[1], five[2], five[3], five[4]);
        }
        return there;
    }

    /** Takes all off the tape by a land of nothing. */
    static GlassLeaders emptied(GlassLeaders g) {
        g.land(0);
        return g;
    }

    static int land(GlassLeaders g, String text) {
        feed(g, text);
        return g.land(text.length());
    }

    static int law(GlassLeaders g, String text) {
        feed(g, text);
        return g.law(text.length());
    }

    static GlassLeaders of(String land) {
        GlassLeaders g = new GlassLeaders();
        if (land(g, land) < 1) {
            due("the fault of the land [" + land + "]", g.fault(), -1);
        }
        return g;
    }

    static GlassLeaders of(String land, String law) {
        return ruled(of(land), law);
    }

    static GlassLeaders ruled(GlassLeaders g, String law) {
        if (law(g, law) < 0) {
            due("the fault of the law [" + law + "]", g.fault(), -1);
        }
        return g;
    }

    /** An object of which all is told that can be: two images, a journey, a fault, bytes on the tape. */
    static GlassLeaders full() {
        GlassLeaders g = of(SMALL, "rest if hour<9;go if stores>0;");
        g.kind(1, 2);
        g.plan(0, 2);
        g.turn(2, 1);
        g.days(2);
        g.row(2);
        g.row(3);
        g.run(5);
        g.image();
        g.kind(0, 3);
        g.plan(1, 1);
        g.turn(1, 0);
        g.row(0);
        g.days(3);
        g.run(7);
        g.image();
        g.kind(0, 0);
        g.turn(0, 1);
        law(g, "go to=2;");
        feed(g, "place end;person 1;hours 7;");
        return g;
    }

    /** An object without a land, of which all is told that can be without one. */
    static GlassLeaders bare() {
        GlassLeaders g = ruled(new GlassLeaders(), "go if 1=1;");
        g.days(5);
        g.row(0);
        g.image();
        g.row(0);
        feed(g, "place;person 0;");
        return g;
    }

    /** Each of these calls is refused for this reason, which alone is counted; all else stays as it was. */
    static void refuses(int why, Made made, Call... calls) {
        String before = everything(made.make());
        for (int i = 0; i < calls.length; i++) {
            GlassLeaders g = made.make();
            int[] counted = {g.status(INDEX), g.status(ELEMENT), g.status(ARGUMENT), g.status(STATE)};
            due("reason for refusing call " + i, reason(g, calls[i]), why);
            for (int k = 0; k < counted.length; k++) {
                due("status " + k + " behind call " + i, g.status(k), counted[k] + (k == why ? 1 : 0));
            }
            due("all else behind call " + i, everything(g), before);
        }
    }

    /** These arguments are refused, and so are the least and the greatest there are. */
    static void refusesAll(int why, Made made, Asked call, int... arguments) {
        for (int argument : arguments) {
            refuses(why, made, g -> call.of(g, argument));
        }
        for (int argument : EXTREMES) {
            refuses(why, made, g -> call.of(g, argument));
        }
    }

    /** Places, hours and stores just outside of SMALL's are no state. */
    static void refusesWrongStates(StateCall call) {
        refusesAll(ARGUMENT, Edge::full, (g, place) -> call.of(g, place, 0, 3), -1, 3);
        refusesAll(ARGUMENT, Edge::full, (g, hour) -> call.of(g, 0, hour, 3), -1, 4);
        refusesAll(ARGUMENT, Edge::full, (g, stores) -> call.of(g, 0, 0, stores), -1, 4);
        GlassLeaders g = full();
        int least = reason(g, x -> call.of(x, 0, 0, 0));
        int greatest = reason(g, x -> call.of(x, 2, 3, 3));
        due("reason for refusing the least state", least, -1);
        due("reason for refusing the greatest state", greatest, -1);
    }

    interface StateCall {
        long of(GlassLeaders g, int place, int hour, int stores);
    }

    /** Without a land this is refused, whatever else is wrong with it. */
    static void needsLand(Call... calls) {
        refuses(STATE, Edge::bare, calls);
        GlassLeaders g = new GlassLeaders();
        land(g, "place;");
        for (Call call : calls) {
            due("reason behind a land with a fault", reason(g, call), STATE);
        }
    }

    /** The number of the exception by which a call is refused; -1 if it answers. */
    static int reason(GlassLeaders g, Call call) {
        try {
            call.of(g);
        } catch (RuntimeException e) {
            for (int i = 0; i < REASONS.length; i++) {
                if (e.getClass() == REASONS[i]) {
                    return i;
                }
            }
            return 99;
        }
        return -1;
    }

    /** All that can be asked of an object but for its status, as a text; the object is used up by it. */
    static String everything(GlassLeaders g) {
        StringBuilder b = new StringBuilder();
        b.append("fault ").append(g.fault()).append(" ended ").append(g.ended()).append(" count");
        for (int i = 0; i < 4; i++) {
            b.append(' ').append(g.count(i));
        }
        b.append(" told");
        for (int i = 0; i <= 8; i++) {
            b.append(' ').append(g.told(i));
        }
        journey(g, b);
        if (g.told(0) > 0) {
            everythingOfLand(g, b);
        }
        everythingTold(g, b);
        for (int i = g.count(1); i >= 0; i--) {
            b.append("\non ").append(g.on()).append(" ended ").append(g.ended());
            journey(g, b);
            everythingTold(g, b);
        }
        int bytes = g.count(2);
        b.append("\ntape ").append(g.land(bytes)).append(' ').append(g.fault()).append(' ').append(g.told(3));
        return b.toString();
    }

    private static void journey(GlassLeaders g, StringBuilder b) {
        b.append(" was");
        for (int hour = 0; hour <= 24 && hour <= g.told(3) + 1; hour++) {
            b.append(' ').append(g.was(hour, 0)).append(g.was(hour, 1)).append(g.was(hour, 2));
        }
    }

    private static void everythingOfLand(GlassLeaders g, StringBuilder b) {
        b.append("\nland all ").append(g.all()).append(" judge ").append(g.judge());
        for (int person = 0; person < g.told(2); person++) {
            b.append(" person ").append(g.wants(person, -1)).append(' ').append(g.proof(person));
            for (int place = 0; place < g.told(0); place++) {
                b.append(' ').append(g.wants(person, place));
            }
        }
        for (int place = 0; place < g.told(0); place++) {
            for (int hour = 0; hour < g.told(3); hour++) {
                b.append(' ').append(g.next(place, hour, 1)).append(g.takes(place, hour, g.told(4)));
            }
        }
    }

    /** What was told, read by telling something else. */
    private static void everythingTold(GlassLeaders g, StringBuilder b) {
        b.append("\ndays ").append(g.days(1)).append(" kinds");
        for (int person = 0; person < g.told(2); person++) {
            b.append(' ').append(g.kind(person, 1));
        }
        b.append(" plan");
        for (int hour = 0; hour < 24; hour++) {
            b.append(' ').append(g.plan(hour, 0)).append('/').append(g.turn(hour, -1));
        }
        if (g.told(0) > 0) {
            b.append(" judge ").append(g.judge());
        }
        b.append(" rows ").append(g.clear());
    }

    private static int promiseOf(Method m) {
        String name = m.getName();
        return name.matches("promise\\d\\d_\\w+") ? Integer.parseInt(name.substring(7, 9)) : 0;
    }

    /** Runs a class's tests by their names; each promise from first to last must have one. */
    static void runAll(Class<?> tests, int first, int last) {
        List<Method> all = new ArrayList<>();
        boolean[] looked = new boolean[last + 1];
        for (Method m : tests.getDeclaredMethods()) {
            int promise = promiseOf(m);
            if (promise >= first && promise <= last) {
                all.add(m);
                looked[promise] = true;
            } else if (promise != 0) {
                due(m.getName() + " among promises " + first + " to", promise, last);
            }
        }
        all.sort(Comparator.comparing(Method::getName));
        for (Method m : all) {
            test = m.getName();
            run(m);
        }
        for (int promise = first; promise <= last; promise++) {
            test = "promise " + promise;
            due("has a test", looked[promise] ? 1 : 0, 1);
        }
        System.out.println(all.size() + " edges of promises " + first + " to " + last + ", "
                + (wrong == 0 ? "all are kept" : wrong + " answers are not as due"));
        if (wrong != 0) {
            System.exit(1);
        }
    }

    private static void run(Method m) {
        try {
            m.setAccessible(true);
            m.invoke(null);
        } catch (InvocationTargetException e) {
            wrong++;
            System.out.println(test + ": threw " + e.getCause());
        } catch (IllegalAccessException e) {
            throw new RuntimeException(e);
        }
    }
}
