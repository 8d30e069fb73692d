import java.util.ArrayDeque;
import java.util.ArrayList;
import java.util.Arrays;
import java.util.Deque;
import java.util.HashSet;
import java.util.List;
import java.util.Map;
import java.util.Random;
import java.util.Set;

/**
 * Promises 3 to 5 once more: texts that are nearly right, read a second time by a table of what may follow, on a
 * stack of what is due, and their faults compared.
 */
public final class GlassLeadersFaults {
    private static int wrong = 0;
    private static int faulty = 0;
    private static final int[] FOUND = new int[5];

    record Token(String text, int at) {
        boolean number() {
            return !text.isEmpty() && Character.isDigit(text.charAt(0));
        }

        int worth() {
            String digits = text.replaceFirst("^0+(?=.)", "");
            return digits.length() > 6 ? 999999 : Integer.parseInt(digits);
        }
    }

    /** What is wrong, and where. */
    record Fault(int number, int at) { }

    private static List<Token> tokens(String text) {
        List<Token> all = new ArrayList<>();
        java.util.regex.Matcher m = java.util.regex.Pattern.compile("[0-9]+|[a-z]+|[^ ]", java.util.regex.Pattern.DOTALL)
                .matcher(text);
        while (m.find()) {
            all.add(new Token(m.group(), m.start()));
        }
        all.add(new Token("", text.length()));
        return all;
    }

    // ------------------------------------------------------------------------------------------ lands

    private static final Map<String, String> CLAUSES = Map.of("way", "PQ", "snow", "WABN", "person", "C",
            "wants", "KPV", "hours", "H", "store", "S", "lost", "V", "start", "P");

    private static Fault landFault(String text) {
        List<Token> all = tokens(text);
        int places = 0;
        int ways = 0;
        int persons = 0;
        Set<Integer> snowy = new HashSet<>();
        int i = 0;
        for (int clause = 0; !all.get(i).text.isEmpty(); clause++) {
            Token word = all.get(i);
            boolean place = word.text.equals("place");
            if (!place && !CLAUSES.containsKey(word.text)) {
                return new Fault(1, word.at);
            }
            if (clause == 60 || place && places == 12 || word.text.equals("way") && ways == 24
                    || word.text.equals("person") && persons == 5) {
                return new Fault(3, word.at);
            }
            i++;
            if (place && (all.get(i).text.equals("hut") || all.get(i).text.equals("end"))) {
                i++;
            }
            String due = place ? "" : CLAUSES.get(word.text);
            int before = -1;
            for (char c : due.toCharArray()) {
                Token t = all.get(i++);
                if (!t.number()) {
                    return new Fault(1, t.at);
                }
                int n = t.worth();
                boolean fits;
                switch (c) {
                    case 'P': fits = n < places; break;
                    case 'Q': fits = n < places && n != before; break;
                    case 'W': fits = n < ways; break;
                    case 'K': fits = n < persons; break;
                    case 'A': fits = n < 24; break;
                    case 'B':
                        fits = n < 24 && n >= before;
                        Set<Integer> with = new HashSet<>(snowy);
                        for (int h = before; h <= n && fits; h++) {
                            with.add(h);
                        }
                        fits &= with.size() <= 10;
                        if (fits) {
                            snowy = with;
                        }
                        break;
                    case 'N': fits = n >= 1 && n <= 16; break;
                    case 'C': fits = n < 10; break;
                    case 'V': fits = n < 100; break;
                    case 'H': fits = n >= 1 && n <= 24; break;
                    default: fits = n >= 1 && n <= 12; break;
                }
                if (!fits) {
                    return new Fault(2, t.at);
                }
                before = n;
            }
            if (!all.get(i).text.equals(";")) {
                return new Fault(1, all.get(i).at);
            }
            i++;
            places += place ? 1 : 0;
            ways += word.text.equals("way") ? 1 : 0;
            persons += word.text.equals("person") ? 1 : 0;
        }
        return places == 0 || persons == 0 ? new Fault(4, text.length()) : null;
    }

    // ------------------------------------------------------------------------------------------ laws

    private static final List<String> FACTS = List.of("hour", "left", "stores", "hut", "leader", "place", "to", "snow");

    /** What a due symbol becomes in front of a token; null: the token can't stand there. */
    private static String[] becomes(String due, Token t) {
        String s = t.text;
        boolean unit = t.number() || FACTS.contains(s) || s.equals("(");
        switch (due) {
            case "RULES":
                if (s.isEmpty()) {
                    return new String[0];
                }
                return s.equals("rest") || s.equals("go") ? new String[] {s, "if", "C", ";", "RULES"} : null;
            case "C": return new String[] {"D", "C2"};
            case "C2": return s.equals("or") ? new String[] {"or", "D", "C2"} : new String[0];
            case "D": return new String[] {"B", "D2"};
            case "D2": return s.equals("and") ? new String[] {"and", "B", "D2"} : new String[0];
            case "B":
                if (s.equals("not")) {
                    return new String[] {"not", "B", "NOTEND"};
                }
                if (s.equals("[")) {
                    return new String[] {"[", "C", "]"};
                }
                return unit ? new String[] {"E", "R", "E"} : null;
            case "R": return s.equals("<") || s.equals(">") || s.equals("=") ? new String[] {s} : null;
            case "E": return new String[] {"T", "E2"};
            case "E2": return s.equals("+") || s.equals("-") ? new String[] {s, "T", "E2"} : new String[0];
            case "T": return new String[] {"U", "T2"};
            case "T2": return s.equals("*") || s.equals("/") ? new String[] {s, "U", "T2"} : new String[0];
            case "U":
                if (s.equals("(")) {
                    return new String[] {"(", "E", ")"};
                }
                return unit ? new String[] {s} : null;
            default: return null;
        }
    }

    private static Fault lawFault(String text) {
        List<Token> all = tokens(text);
        Deque<String> due = new ArrayDeque<>();
        due.push("RULES");
        int i = 0;
        int open = 0;
        int rules = 0;
        while (!due.isEmpty()) {
            String top = due.pop();
            Token t = all.get(i);
            if (top.equals("NOTEND")) {
                open--;
                continue;
            }
            if (top.equals(top.toUpperCase()) && Character.isLetter(top.charAt(0))) {
                String[] parts = becomes(top, t);
                if (parts == null) {
                    return new Fault(1, t.at);
                }
                if (top.equals("RULES") && parts.length > 0 && rules++ == 10) {
                    return new Fault(3, t.at);
                }
                for (int k = parts.length - 1; k >= 0; k--) {
                    due.push(parts[k]);
                }
                continue;
            }
            if (!top.equals(t.text)) {
                return new Fault(1, t.at);
            }
            if (t.number() && t.worth() > 9999) {
                return new Fault(2, t.at);
            }
            boolean opens = top.equals("(") || top.equals("[") || top.equals("not");
            if (opens && open == 6) {
                return new Fault(3, t.at);
            }
            open += opens ? 1 : top.equals(")") || top.equals("]") ? -1 : 0;
            i++;
        }
        return null;
    }

    // ------------------------------------------------------------------------------------------ texts

    private static String someLand(Random r) {
        StringBuilder b = new StringBuilder();
        int places = r.nextInt(5) == 0 ? 10 + r.nextInt(4) : 1 + r.nextInt(4);
        for (int i = 0; i < places; i++) {
            b.append(new String[] {"place;", "place hut;", "place end ;", " place;"}[r.nextInt(4)]);
        }
        for (int i = r.nextInt(6) == 0 ? 23 + r.nextInt(3) : r.nextInt(4); i > 0; i--) {
            b.append("way ").append(r.nextInt(places)).append(' ').append(r.nextInt(places + 1)).append(';');
        }
        for (int i = 1 + r.nextInt(6); i > 0; i--) {
            b.append("person ").append(r.nextInt(10)).append(';');
        }
        for (int i = r.nextInt(4); i > 0; i--) {
            int a = r.nextInt(24);
            b.append("snow ").append(r.nextInt(3)).append(' ').append(a).append(' ').append(a + r.nextInt(8))
                    .append(' ').append(r.nextInt(18)).append(';');
        }
        for (int i = r.nextInt(12) == 0 ? 50 : r.nextInt(4); i > 0; i--) {
            b.append(new String[] {"hours 24;", "store 12;", "lost 99;", "start 0;", "wants 0 0 9;", "lost 1;"}[
                    r.nextInt(6)]);
        }
        return b.toString();
    }

    private static String someExpression(Random r, int deep) {
        String s = "";
        for (int n = r.nextInt(3); n >= 0; n--) {
            boolean inner = deep > 0 && r.nextInt(3) == 0;
            s += inner ? "(" + someExpression(r, deep - 1) + ")"
                    : r.nextBoolean() ? FACTS.get(r.nextInt(8)) : "" + r.nextInt(r.nextInt(9) == 0 ? 20000 : 20);
            s += n > 0 ? "" + "+-*/".charAt(r.nextInt(4)) : "";
        }
        return s;
    }

    private static String someCondition(Random r, int deep) {
        switch (deep > 0 ? r.nextInt(6) : 0) {
            case 1: return "not " + someCondition(r, deep - 1);
            case 2: return "[" + someCondition(r, deep - 1) + "]";
            case 3: return someCondition(r, deep - 1) + " and " + someCondition(r, deep - 1);
            case 4: return someCondition(r, deep - 1) + " or " + someCondition(r, deep - 1);
            default: return someExpression(r, r.nextInt(3)) + "<>=".charAt(r.nextInt(3)) + someExpression(r, 1);
        }
    }

    private static String someLaw(Random r) {
        StringBuilder b = new StringBuilder();
        boolean many = r.nextInt(8) == 0;
        for (int i = many ? 12 : r.nextInt(4); i > 0; i--) {
            b.append(r.nextBoolean() ? "go if " : "rest if ").append(someCondition(r, many ? 0 : r.nextInt(9))).append(';');
        }
        return b.toString();
    }

    private static final String[] BITS = {"place", "hut", "end", "way", "snow", "person", "not ", "[", "]", "(", ")", "and ",
        "or ", "if ", "go ", "rest ", ";", " ", "0", "1", "12", "99", "hour", "z", "<", "=", "+", "/", "A", "\n", "9999999999999"};

    private static String spoilt(String text, Random r) {
        StringBuilder b = new StringBuilder(text);
        for (int n = r.nextInt(3); n > 0; n--) {
            int at = r.nextInt(b.length() + 1);
            switch (r.nextInt(4)) {
                case 0: b.insert(at, BITS[r.nextInt(BITS.length)]); break;
                case 1: b.setLength(r.nextInt(3) == 0 ? at : b.length()); break;
                case 2:
                    if (at < b.length()) {
                        b.deleteCharAt(at);
                    }
                    break;
                default:
                    int to = Math.min(b.length(), at + r.nextInt(12));
                    b.insert(r.nextInt(b.length() + 1), b.substring(at, to));
                    break;
            }
        }
        b.setLength(Math.min(600, b.length()));
        return b.toString();
    }

    private static void feed(GlassLeaders g, String text) {
        for (int at = 0; at < text.length(); at += 20) {
            int[] five = new int[5];
            for (int i = 0; i < 20; i++) {
                int c = at + i < text.length() ? text.charAt(at + i) : ';';
                five[i / 4] = five[i / 4] << 8 | c;
            }
            g.feed(five[0], five[1], five[2], five[3], five[4]);
        }
    }

    private static void compare(GlassLeaders g, String text, boolean land) {
        Fault fault = land ? landFault(text) : lawFault(text);
        int kept = land ? g.told(0) : g.told(8);
        feed(g, text);
        int answer = land ? g.land(text.length()) : g.law(text.length());
        int number = answer < 0 ? answer + 10 : 0;
        int due = fault == null ? 0 : fault.number;
        int at = fault == null ? -1 : fault.at;
        faulty += due > 0 ? 1 : 0;
        FOUND[due]++;
        boolean counted = (land ? g.told(0) : g.told(8)) == (due > 0 ? kept : answer);
        if (number != due || g.fault() != at || !counted) {
            wrong++;
            System.out.println((land ? "land [" : "law [") + text + "] fault " + number + " at " + g.fault()
                    + ", due is " + due + " at " + at);
        }
    }

    public static void main(String[] args) {
        int texts = args.length > 0 ? Integer.parseInt(args[0]) : 60000;
        GlassLeaders g = new GlassLeaders();
        for (int i = 0; i < texts; i++) {
            Random r = new Random(i * 0x9E3779B97F4A7C15L + 5);
            boolean land = i % 2 == 0;
            compare(g, spoilt(land ? someLand(r) : someLaw(r), r), land);
        }
        System.out.println(texts + " texts, " + faulty + " with a fault, by number " + Arrays.toString(FOUND) + "; "
                + wrong + " not as due");
        if (wrong != 0) {
            System.exit(1);
        }
    }
}
