import java.lang.reflect.InvocationTargetException;
import java.lang.reflect.Method;
import java.util.ArrayList;
import java.util.Arrays;
import java.util.Comparator;
import java.util.List;
import java.util.NoSuchElementException;
import java.util.Random;

/**
 * Any calls in any state, with any arguments: an answer, or an exception that the face names, which is counted;
 * the same calls give the same answers; the largest land and law; and no call makes room for more.
 */
public final class GlassLeadersLimits {
    private static int wrong = 0;
    private static final List<Class<?>> REASONS = List.of(IndexOutOfBoundsException.class,
            NoSuchElementException.class, IllegalArgumentException.class, IllegalStateException.class);

    private static void due(String what, long got, long want) {
        if (got != want) {
            wrong++;
            System.out.println(what + " answered " + got + ", due is " + want);
        }
    }

    private static void feed(GlassLeaders g, String text) {
        for (int at = 0; at < text.length(); at += 20) {
            int[] five = new int[5];
            for (int i = 0; i < 20; i++) {
                int b = at + i < text.length() ? text.charAt(at + i) : 0;
                five[i / 4] = five[i / 4] << 8 | b;
            }
            g.feed(five[0], five[1], five[2], five[3], five[4]);
        }
    }

    /** As much of all as a land may have: 12 places, 24 ways, 5 persons, 10 snowy hours, in 60 clauses. */
    private static String largestLand(Random r) {
        StringBuilder b = new StringBuilder();
        for (int i = 0; i < 12; i++) {
            b.append(i == 5 ? "place hut;" : i == 11 ? "place end;" : "place;");
        }
        for (int i = 0; i < 24; i++) {
            int p = i < 11 ? i : r.nextInt(12);
            int q = i < 11 ? i + 1 : (p + 1 + r.nextInt(11)) % 12;
            b.append("way ").append(p).append(' ').append(q).append(';');
        }
        b.append("person 9;person 0;person 1;person 2;person 3;");
        b.append("snow 3 2 6 5;snow 10 14 18 16;snow 0 2 3 1;");
        for (int i = 0; i < 10; i++) {
            b.append("wants ").append(i % 5).append(' ').append(r.nextInt(12)).append(' ').append(9 * i).append(';');
        }
        b.append("hours 24;lost 99;start 0;");
        return b.toString();
    }

    private static String largestLaw() {
        String rule = "go if[((hour+left)*stores-to)/3>leader or not snow=5];";
        return rule.repeat(9) + "rest if not not not not not not hour<23;";
    }

    private static GlassLeaders largest(int seed) {
        GlassLeaders g = new GlassLeaders();
        String land = largestLand(new Random(seed));
        String law = largestLaw();
        due("bytes", land.length() <= 600 && law.length() <= 600 ? 1 : 0, 1);
        feed(g, land);
        due("land", g.land(land.length()), 12);
        feed(g, law);
        due("law", g.law(law.length()), 10);
        for (int k = 0; k < 5; k++) {
            g.kind(k, (k + seed) % 6);
        }
        return g;
    }

    private static int argument(Random r) {
        switch (r.nextInt(12)) {
            case 0: return r.nextInt();
            case 1: return r.nextBoolean() ? Integer.MIN_VALUE : Integer.MAX_VALUE;
            case 2: return -1;
            case 3: return r.nextInt(30) - 3;
            case 4: return 24 - r.nextInt(2);
            default: return r.nextInt(6);
        }
    }

    private static Method[] face() {
        List<Method> all = new ArrayList<>();
        for (Method m : GlassLeaders.class.getDeclaredMethods()) {
            if (java.lang.reflect.Modifier.isPublic(m.getModifiers())) {
                all.add(m);
            }
        }
        all.sort(Comparator.comparing(Method::getName));
        return all.toArray(new Method[0]);
    }

    /** Answers as text; an exception as its place among the reasons, after looking at its count. */
    private static String call(GlassLeaders g, Method m, Object[] arguments) {
        int[] before = {g.status(0), g.status(1), g.status(2), g.status(3)};
        int why = -1;
        String answer;
        try {
            answer = String.valueOf(m.invoke(g, arguments));
        } catch (InvocationTargetException e) {
            Class<?> thrown = e.getCause().getClass();
            why = REASONS.indexOf(thrown);
            answer = "throws " + thrown.getName();
            if (why < 0 || !Arrays.asList(m.getExceptionTypes()).contains(thrown)) {
                wrong++;
                System.out.println(m.getName() + Arrays.toString(arguments) + " " + answer);
            }
        } catch (IllegalAccessException e) {
            throw new RuntimeException(e);
        }
        for (int i = 0; i < 4; i++) {
            due("status " + i + " after " + m.getName(), g.status(i), before[i] + (i == why ? 1 : 0));
        }
        return answer;
    }

    private static GlassLeaders some(int seed, Random r) {
        if (seed % 8 == 0) {
            return largest(seed);
        }
        GlassLeaders g = new GlassLeaders();
        if (seed % 8 > 1) {
            String land = "place;place end;place hut;way 0 1;way 0 2;way 2 1;person 1;person 0;person 2;"
                    + "wants 0 1 10;wants 1 2 5;wants 2 0 3;hours 5;store 3;lost 7;snow 0 1 2 8;snow 2 0 9 16;";
            feed(g, land);
            due("land", g.land(land.length()), 3);
            String law = "go if to=2 or hour>" + r.nextInt(3) + ";rest if stores>1;";
            feed(g, law);
            due("law", g.law(law.length()), 2);
        }
        return g;
    }

    private static String anyCalls(int seed) {
        Random r = new Random(seed * 7919L);
        GlassLeaders g = some(seed, r);
        Method[] face = face();
        StringBuilder all = new StringBuilder();
        int calls = seed % 8 == 0 ? 150 : 500;
        for (int i = 0; i < calls; i++) {
            Method m = face[r.nextInt(face.length)];
            Object[] arguments = new Object[m.getParameterCount()];
            for (int k = 0; k < arguments.length; k++) {
                arguments[k] = argument(r);
            }
            // a tape that fills up, or a land that goes, would leave little to ask
            if (m.getName().equals("land") && r.nextInt(4) > 0) {
                continue;
            }
            all.append(m.getName()).append(call(g, m, arguments)).append('\n');
        }
        return all.toString();
    }

    private static long roomOfAllCalls(GlassLeaders g) {
        com.sun.management.ThreadMXBean bean =
                (com.sun.management.ThreadMXBean) java.lang.management.ManagementFactory.getThreadMXBean();
        long id = Thread.currentThread().getId();
        long before = bean.getThreadAllocatedBytes(id);
        askAll(g);
        return bean.getThreadAllocatedBytes(id) - before;
    }

    private static long askAll(GlassLeaders g) {
        long sum = g.all() + g.run(5) + g.judge() + g.give() + g.holds() + g.mind() + g.vote() + g.needs();
        sum += g.order(-1) + g.length(-1) + g.there(0) + g.image() + g.on() + g.row(1) + g.clear();
        for (int k = 0; k < 5; k++) {
            sum += g.alone(k) + g.proof(k) + g.hour(k, 23) + g.price(23, k) + g.blind(k) + g.asks(k) + g.beside(k);
            sum += g.pact(k, (k + 1) % 5, 1) + g.without(9, k) + g.swap(k, (k + 2) % 5) + g.value(k, 11, 24, 12);
        }
        for (int p = 0; p < 12; p++) {
            sum += g.visits(p) + g.ever(p, 0, 12) + g.force(p, 23, 12) + g.takes(p, 23, 1) + g.next(p, 3, 3);
            sum += g.trap(p, 1, 1) ? 1 : 0;
        }
        return sum + g.arrives(24, 2) + g.scale(24);
    }

    /** Questions change nothing: each answers the same first of all, and behind any other one. */
    private static void questionsOneAfterTheOther() {
        List<Method> questions = new ArrayList<>();
        List<String> changing = List.of("feed", "land", "law", "kind", "plan", "turn", "days", "row", "clear",
                "image", "on", "run", "status");
        for (Method m : face()) {
            if (!changing.contains(m.getName())) {
                questions.add(m);
            }
        }
        for (Method second : questions) {
            String alone = call(asking(), second, argumentsOf(second));
            for (Method first : questions) {
                GlassLeaders g = asking();
                call(g, first, argumentsOf(first));
                if (!call(g, second, argumentsOf(second)).equals(alone)) {
                    wrong++;
                    System.out.println(second.getName() + " answers otherwise behind " + first.getName());
                }
                g.kind(1, 0);
                g.kind(1, 2);
                if (!call(g, second, argumentsOf(second)).equals(alone)) {
                    wrong++;
                    System.out.println(second.getName() + " answers otherwise behind a change");
                }
            }
        }
    }

    private static Object[] argumentsOf(Method m) {
        Object[] arguments = new Object[m.getParameterCount()];
        for (int i = 0; i < arguments.length; i++) {
            arguments[i] = i == 1 && m.getName().matches("pact|swap|hour") ? 1 : 0;
        }
        if (m.getName().matches("next|takes|trap|force|ever") || m.getName().equals("value")) {
            arguments[arguments.length - 1] = 3;
        }
        return arguments;
    }

    private static GlassLeaders asking() {
        GlassLeaders g = new GlassLeaders();
        String land = "place;place;place;place end;way 0 1;way 1 2;way 1 3;person 0;person 0;person 1;wants 0 0 3;"
                + "wants 1 0 3;wants 1 2 10;wants 0 3 8;wants 1 3 8;wants 2 3 9;hours 4;store 3;snow 0 0 1 4;";
        feed(g, land);
        g.land(land.length());
        String law = "go if not to=2 or leader=1;rest if hour<3;";
        feed(g, law);
        g.law(law.length());
        g.kind(1, 2);
        g.row(1);
        return g;
    }

    private static void theFace() {
        due("methods of the face", face().length, 50);
        due("constructors", GlassLeaders.class.getConstructors().length, 1);
        due("public fields", GlassLeaders.class.getFields().length, 1);
    }

    public static void main(String[] args) {
        theFace();
        questionsOneAfterTheOther();
        for (int seed = 0; seed < 200; seed++) {
            due("the same calls, seed " + seed, anyCalls(seed).equals(anyCalls(seed)) ? 1 : 0, 1);
        }
        for (int seed = 0; seed < 6; seed++) {
            GlassLeaders g = largest(seed);
            long answer = askAll(g);
            due("all again", askAll(g), answer);
            due("room for all calls, in bytes, is none", Math.min(roomOfAllCalls(g), 4000) < 4000 ? 0 : 1, 0);
            GlassLeaders fresh = largest(seed);
            due("all on another object", askAll(fresh), answer);
        }
        System.out.println(wrong == 0 ? "all limits are kept" : wrong + " answers are not as due");
        if (wrong != 0) {
            System.exit(1);
        }
    }
}
