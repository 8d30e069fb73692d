import java.math.BigDecimal;
import java.util.ArrayList;
import java.util.Arrays;
import java.util.HashMap;
import java.util.HashSet;
import java.util.List;
import java.util.Map;
import java.util.Random;
import java.util.Set;
import java.util.function.Function;

/**
 * Random lands and laws, worked a second time in the plainest way: by recursion over states, with exact
 * fractions, conditions as trees, chances by following each branch. Promises 6 to 47 are compared.
 */
public final class GlassLeadersOracle {
    static final int AHEAD = 0, OWN = 1, KIND = 2, SPEND = 3, BLIND = 4, PLANNED = 5, PACT = 6, VOTED = 7;
    static int wrong = 0;
    static int compared = 0;

    // ---------------------------------------------------------------- the world as the document tells it

    static final class Rule {
        boolean rest;
        Cond cond;
    }

    static final class Facts {
        int hour, left, stores, hut, leader, place, to, snow;
    }

    interface Cond {
        boolean holds(Facts f);
        void write(Pen pen);
        int level();
    }

    interface Expr {
        int worth(Facts f);
        void write(Pen pen);
        int level();
    }

    /** Writes words and signs with blanks thrown in. */
    static final class Pen {
        final StringBuilder out = new StringBuilder();
        final Random random;

        Pen(Random random) {
            this.random = random;
        }

        void blanks() {
            while (random.nextInt(6) == 0) {
                out.append(' ');
            }
        }

        Pen word(String w) {
            blanks();
            if (out.length() > 0 && Character.isLetter(out.charAt(out.length() - 1))
                    && Character.isLetter(w.charAt(0))) {
                out.append(' ');
            }
            out.append(w);
            return this;
        }

        Pen number(int n) {
            blanks();
            if (out.length() > 0 && Character.isDigit(out.charAt(out.length() - 1))) {
                out.append(' ');
            }
            if (random.nextInt(12) == 0) {
                out.append('0');
            }
            out.append(n);
            return this;
        }

        Pen sign(char c) {
            blanks();
            out.append(c);
            return this;
        }
    }

    static final class World {
        List<Integer> sorts = new ArrayList<>();
        List<int[]> ways = new ArrayList<>();
        Map<List<Integer>, Integer> snow = new HashMap<>();
        List<Integer> costs = new ArrayList<>();
        Map<List<Integer>, Integer> wants = new HashMap<>();
        int hours = 12, store = 12, lost = 0, start = 0;
        List<Rule> law = new ArrayList<>();
        int[] kinds = new int[5];
        int[] plan = new int[24];
        int[] turns = new int[24];
        int days = 1;
        List<Integer> rows = new ArrayList<>();

        int snowOf(int way, int hour) {
            return snow.getOrDefault(List.of(way, hour), 0);
        }

        boolean snowy(int hour) {
            for (int w = 0; w < ways.size(); w++) {
                if (snowOf(w, hour) > 0) {
                    return true;
                }
            }
            return false;
        }

        BigDecimal scale(int hour) {
            BigDecimal s = BigDecimal.ONE;
            for (int h = hour; h < hours; h++) {
                if (snowy(h)) {
                    s = s.multiply(BigDecimal.valueOf(16));
                }
            }
            return s;
        }
    }

    record State(int place, int hour, int stores) { }

    /** One way it could be: who leads, how, with how much, by which rules. */
    static final class Case {
        final World w;
        int[] leads = new int[24];
        int[] kinds = new int[5];
        int store;
        List<Rule> law;
        int[] pact = {};
        final Map<State, BigDecimal[]> known = new HashMap<>();
        final Map<List<Object>, BigDecimal> aloneKnown = new HashMap<>();
        final Map<List<Object>, BigDecimal> blindKnown = new HashMap<>();

        Case(World w) {
            this(w, w.days, null);
        }

        Case(World w, int days, int[] round) {
            this.w = w;
            int n = w.costs.size();
            for (int h = 0; h < 24; h++) {
                int seat = (h / days) % n;
                leads[h] = w.turns[h] >= 0 ? w.turns[h] : round == null ? seat : round[seat];
            }
            kinds = w.kinds.clone();
            store = w.store;
            law = w.law;
        }

        State begin() {
            return new State(w.start, 0, store);
        }

        /** "" going, else how it ended. */
        String how(State s) {
            if (w.sorts.get(s.place) == 2) {
                return "there";
            }
            if (s.stores == 0) {
                return "lost";
            }
            return s.hour == w.hours ? "late" : "";
        }

        BigDecimal worth(int person, State s) {
            int base = how(s).equals("lost") ? -w.lost : w.wants.getOrDefault(List.of(person, s.place), 0);
            return BigDecimal.valueOf(base - s.hour * w.costs.get(person));
        }

        int across(int way, int place) {
            int[] ends = w.ways.get(way);
            return ends[0] == place ? ends[1] : ends[1] == place ? ends[0] : -1;
        }

        State stayed(State s) {
            return new State(s.place, s.hour + 1, w.sorts.get(s.place) == 1 ? store : s.stores - 1);
        }

        State open(State s, int move) {
            if (move == 0) {
                return stayed(s);
            }
            int to = across(move - 1, s.place);
            return new State(to, s.hour + 1, w.sorts.get(to) == 1 ? store : s.stores - 1);
        }

        List<Integer> lawful(int leader, State s) {
            List<Integer> moves = new ArrayList<>();
            for (int m = 0; m <= w.ways.size(); m++) {
                if (m > 0 && across(m - 1, s.place) < 0) {
                    continue;
                }
                Facts f = new Facts();
                f.hour = s.hour;
                f.left = w.hours - s.hour;
                f.stores = s.stores;
                f.hut = w.sorts.get(s.place) == 1 ? 1 : 0;
                f.leader = leader;
                f.place = s.place;
                f.to = m == 0 ? s.place : across(m - 1, s.place);
                f.snow = m == 0 ? 0 : w.snowOf(m - 1, s.hour);
                boolean fine = true;
                for (Rule r : law) {
                    if (r.rest == (m == 0)) {
                        fine &= r.cond.holds(f);
                    }
                }
                if (fine) {
                    moves.add(m);
                }
            }
            if (moves.isEmpty()) {
                moves.add(0);
            }
            return moves;
        }

        BigDecimal closing(State s, int move) {
            return move == 0 ? BigDecimal.ONE
                    : BigDecimal.valueOf(w.snowOf(move - 1, s.hour)).divide(BigDecimal.valueOf(16));
        }

        BigDecimal mean(State s, int move, Function<State, BigDecimal> f) {
            BigDecimal shut = closing(s, move);
            BigDecimal sum = BigDecimal.ZERO;
            if (shut.signum() > 0) {
                sum = sum.add(shut.multiply(f.apply(stayed(s))));
            }
            if (shut.compareTo(BigDecimal.ONE) < 0) {
                sum = sum.add(BigDecimal.ONE.subtract(shut).multiply(f.apply(open(s, move))));
            }
            return sum;
        }

        int best(List<Integer> moves, State s, Function<State, BigDecimal> f) {
            int best = -1;
            BigDecimal most = null;
            for (int m : moves) {
                BigDecimal v = mean(s, m, f);
                if (most == null || v.compareTo(most) > 0) {
                    most = v;
                    best = m;
                }
            }
            return best;
        }

        BigDecimal alone(int person, State s) {
            if (!how(s).isEmpty()) {
                return worth(person, s);
            }
            List<Object> key = List.of(person, s);
            BigDecimal v = aloneKnown.get(key);
            if (v == null) {
                List<Integer> moves = lawful(person, s);
                v = mean(s, best(moves, s, t -> alone(person, t)), t -> alone(person, t));
                aloneKnown.put(key, v);
            }
            return v;
        }

        BigDecimal feared(int person, State s) {
            if (!how(s).isEmpty()) {
                return worth(person, s);
            }
            List<Object> key = List.of(person, s);
            BigDecimal v = blindKnown.get(key);
            if (v == null) {
                for (int m : lawful(leads[s.hour], s)) {
                    BigDecimal one = mean(s, m, t -> feared(person, t));
                    boolean mine = leads[s.hour] == person;
                    if (v == null || (mine ? one.compareTo(v) > 0 : one.compareTo(v) < 0)) {
                        v = one;
                    }
                }
                blindKnown.put(key, v);
            }
            return v;
        }

        BigDecimal value(int person, State s) {
            return values(s)[person];
        }

        BigDecimal together(State s) {
            BigDecimal sum = BigDecimal.ZERO;
            for (BigDecimal v : values(s)) {
                sum = sum.add(v);
            }
            return sum;
        }

        BigDecimal[] values(State s) {
            BigDecimal[] row = known.get(s);
            if (row != null) {
                return row;
            }
            int n = w.costs.size();
            row = new BigDecimal[n];
            int move = how(s).isEmpty() ? takes(s) : -1;
            for (int p = 0; p < n; p++) {
                final int q = p;
                row[p] = move < 0 ? worth(p, s) : mean(s, move, t -> value(q, t));
            }
            known.put(s, row);
            return row;
        }

        int takes(State s) {
            if (!how(s).isEmpty()) {
                return -1;
            }
            int l = leads[s.hour];
            List<Integer> moves = lawful(l, s);
            switch (kinds[l]) {
                case AHEAD: return best(moves, s, t -> value(l, t));
                case OWN: return best(moves, s, t -> alone(l, t));
                case KIND: return best(moves, s, t -> together(t));
                case BLIND: return best(moves, s, t -> feared(l, t));
                case PACT: return best(moves, s, t -> value(pact[0], t).add(value(pact[1], t)));
                case PLANNED:
                    if (moves.contains(w.plan[s.hour])) {
                        return w.plan[s.hour];
                    }
                    return moves.contains(0) ? 0 : moves.get(0);
                case SPEND: return moves.contains(0) ? 0 : moves.get(0);
                default:
                    int[] votes = new int[30];
                    for (int p = 0; p < w.costs.size(); p++) {
                        votes[wouldTake(p, s)]++;
                    }
                    int top = 0;
                    for (int v : votes) {
                        top = Math.max(top, v);
                    }
                    for (int m = 0; ; m++) {
                        if (votes[m] == top) {
                            return m;
                        }
                    }
            }
        }

        int wouldTake(int person, State s) {
            return best(lawful(leads[s.hour], s), s, t -> value(person, t));
        }

        /** Follows each branch with its chance. */
        void follow(State s, BigDecimal chance, Map<String, BigDecimal> ends, BigDecimal[] visits) {
            visits[s.place] = visits[s.place].add(chance);
            String how = how(s);
            if (!how.isEmpty()) {
                ends.merge(how + s.hour, chance, BigDecimal::add);
                ends.merge(how, chance, BigDecimal::add);
                return;
            }
            int move = takes(s);
            BigDecimal shut = closing(s, move);
            if (shut.signum() > 0) {
                follow(stayed(s), chance.multiply(shut), ends, visits);
            }
            if (shut.compareTo(BigDecimal.ONE) < 0) {
                follow(open(s, move), chance.multiply(BigDecimal.ONE.subtract(shut)), ends, visits);
            }
        }

        int ever(State s, Map<State, Integer> done) {
            if (how(s).equals("there")) {
                return 0;
            }
            if (!how(s).isEmpty()) {
                return 1000;
            }
            if (done.containsKey(s)) {
                return done.get(s);
            }
            int least = 1000;
            for (int m : lawful(leads[s.hour], s)) {
                boolean shut = m > 0 && w.snowOf(m - 1, s.hour) == 16;
                least = Math.min(least, 1 + ever(shut ? stayed(s) : open(s, m), done));
            }
            done.put(s, least);
            return least;
        }

        void canCome(State s, Set<State> all) {
            if (!all.add(s) || !how(s).isEmpty()) {
                return;
            }
            for (int m : lawful(leads[s.hour], s)) {
                int n = m == 0 ? 16 : w.snowOf(m - 1, s.hour);
                if (n > 0) {
                    canCome(stayed(s), all);
                }
                if (n < 16) {
                    canCome(open(s, m), all);
                }
            }
        }
    }

    // ---------------------------------------------------------------- random worlds

    static Expr leaf(String word, Function<Facts, Integer> f) {
        return new Expr() {
            public int worth(Facts x) { return f.apply(x); }
            public void write(Pen pen) { pen.word(word); }
            public int level() { return 3; }
        };
    }

    static Expr number(int n) {
        return new Expr() {
            public int worth(Facts x) { return n; }
            public void write(Pen pen) { pen.number(n); }
            public int level() { return 3; }
        };
    }

    static void writeExpr(Expr e, int least, Pen pen) {
        if (e.level() < least) {
            pen.sign('(');
            e.write(pen);
            pen.sign(')');
        } else {
            e.write(pen);
        }
    }

    static Expr joinExpr(char op, Expr a, Expr b) {
        int level = op == '+' || op == '-' ? 1 : 2;
        return new Expr() {
            public int worth(Facts f) {
                int x = a.worth(f);
                int y = b.worth(f);
                switch (op) {
                    case '+': return x + y;
                    case '-': return x - y;
                    case '*': return x * y;
                    default: return y == 0 ? 0 : x / y;
                }
            }
            public void write(Pen pen) {
                writeExpr(a, level, pen);
                pen.sign(op);
                writeExpr(b, level + 1, pen);
            }
            public int level() { return level; }
        };
    }

    static Expr expr(Random r, int deep) {
        if (deep > 0 && r.nextInt(3) == 0) {
            return joinExpr("+-*/".charAt(r.nextInt(4)), expr(r, deep - 1), expr(r, deep - 1));
        }
        switch (r.nextInt(12)) {
            case 0: return leaf("hour", f -> f.hour);
            case 1: return leaf("left", f -> f.left);
            case 2: return leaf("stores", f -> f.stores);
            case 3: return leaf("hut", f -> f.hut);
            case 4: return leaf("leader", f -> f.leader);
            case 5: return leaf("place", f -> f.place);
            case 6: case 7: return leaf("to", f -> f.to);
            case 8: return leaf("snow", f -> f.snow);
            case 9: return number(r.nextInt(10000));
            default: return number(r.nextInt(5));
        }
    }

    static void writeCond(Cond c, int least, Pen pen) {
        if (c.level() < least) {
            pen.sign('[');
            c.write(pen);
            pen.sign(']');
        } else {
            c.write(pen);
        }
    }

    static Cond cond(Random r, int deep) {
        int sort = deep == 0 ? 0 : r.nextInt(6);
        if (sort == 1) {
            Cond c = cond(r, deep - 1);
            return new Cond() {
                public boolean holds(Facts f) { return !c.holds(f); }
                public void write(Pen pen) { pen.word("not"); writeCond(c, 3, pen); }
                public int level() { return 3; }
            };
        }
        if (sort == 2 || sort == 3) {
            Cond a = cond(r, deep - 1);
            Cond b = cond(r, deep - 1);
            boolean or = sort == 2;
            return new Cond() {
                public boolean holds(Facts f) { return or ? a.holds(f) || b.holds(f) : a.holds(f) && b.holds(f); }
                public void write(Pen pen) {
                    writeCond(a, or ? 1 : 2, pen);
                    pen.word(or ? "or" : "and");
                    writeCond(b, or ? 2 : 3, pen);
                }
                public int level() { return or ? 1 : 2; }
            };
        }
        Expr a = expr(r, 2);
        Expr b = expr(r, 2);
        char op = "<>=".charAt(r.nextInt(3));
        return new Cond() {
            public boolean holds(Facts f) {
                int x = a.worth(f);
                int y = b.worth(f);
                return op == '<' ? x < y : op == '>' ? x > y : x == y;
            }
            public void write(Pen pen) {
                writeExpr(a, 1, pen);
                pen.sign(op);
                writeExpr(b, 1, pen);
            }
            public int level() { return 3; }
        };
    }

    static String makeLand(World w, Random r, boolean big) {
        Pen pen = new Pen(r);
        int places = 2 + r.nextInt(big ? 8 : 4);
        int persons = 1 + r.nextInt(big || r.nextInt(4) == 0 ? 5 : 4);
        int count = 1 + r.nextInt(big ? 12 : 7);
        // in a lively land all is joined, none begins at an end, and each wants much
        boolean lively = r.nextInt(3) > 0;
        count = lively ? Math.max(count, places + r.nextInt(3)) : count;
        for (int i = 0; i < places; i++) {
            int sort = r.nextInt(5) == 0 ? 1 : r.nextInt(4) == 0 && (i > 0 || !lively) ? 2 : 0;
            w.sorts.add(sort);
            pen.word("place");
            if (sort > 0) {
                pen.word(sort == 1 ? "hut" : "end");
            }
            pen.sign(';');
        }
        for (int i = 0; i < count; i++) {
            int p = lively && i + 1 < places ? i + 1 : r.nextInt(places);
            int q = lively && i + 1 < places ? r.nextInt(i + 1) : (p + 1 + r.nextInt(places - 1)) % places;
            w.ways.add(new int[] {p, q});
            pen.word("way").number(p).number(q).sign(';');
        }
        for (int i = 0; i < persons; i++) {
            int c = r.nextInt(4) == 0 ? r.nextInt(10) : r.nextInt(3);
            w.costs.add(c);
            pen.word("person").number(c).sign(';');
        }
        for (int i = r.nextInt(6); i > 0; i--) {
            int way = r.nextInt(count);
            int a = r.nextInt(5);
            int b = a + r.nextInt(3);
            int n = r.nextInt(4) == 0 ? 16 : 1 + r.nextInt(16);
            for (int h = a; h <= b; h++) {
                w.snow.put(List.of(way, h), n);
            }
            pen.word("snow").number(way).number(a).number(b).number(n).sign(';');
        }
        for (int i = lively ? 10 : r.nextInt(2 * persons + 3); i > 0; i--) {
            int k = lively ? i % persons : r.nextInt(persons);
            int p = r.nextInt(places);
            int v = r.nextInt(3) == 0 ? r.nextInt(100) : r.nextInt(12);
            w.wants.put(List.of(k, p), v);
            pen.word("wants").number(k).number(p).number(v).sign(';');
        }
        w.hours = 1 + r.nextInt(big ? 9 : 6);
        w.store = 1 + r.nextInt(big ? 8 : 5);
        pen.word("hours").number(w.hours).sign(';');
        pen.word("store").number(w.store).sign(';');
        if (r.nextBoolean()) {
            w.lost = r.nextInt(20);
            pen.word("lost").number(w.lost).sign(';');
        }
        if (!lively && r.nextInt(3) > 0) {
            w.start = r.nextInt(places);
            pen.word("start").number(w.start).sign(';');
        }
        pen.blanks();
        return pen.out.toString();
    }

    static String makeLaw(World w, Random r) {
        Pen pen = new Pen(r);
        int rules = r.nextInt(4) == 0 ? 0 : r.nextInt(4);
        for (int i = 0; i < rules; i++) {
            Rule rule = new Rule();
            rule.rest = r.nextInt(3) == 0;
            rule.cond = cond(r, 2);
            w.law.add(rule);
            pen.word(rule.rest ? "rest" : "go").word("if");
            rule.cond.write(pen);
            pen.sign(';');
        }
        pen.blanks();
        return pen.out.toString();
    }

    static void feed(GlassLeaders g, String text) {
        int[] five = new int[5];
        for (int at = 0; at < text.length(); at += 20) {
            Arrays.fill(five, 0);
            for (int i = 0; i < 20; i++) {
                int b = at + i < text.length() ? text.charAt(at + i) : 0;
                five[i / 4] = five[i / 4] << 8 | b;
            }
            g.feed(five[0], five[1], five[2], five[3], five[4]);
        }
    }

    // ---------------------------------------------------------------- comparing

    static String about = "";

    static void same(String call, long got, long want) {
        compared++;
        if (got != want) {
            wrong++;
            if (wrong < 30) {
                System.out.println(about + call + " answered " + got + ", due is " + want);
            }
        }
    }

    static long times(BigDecimal v, BigDecimal scale) {
        return v.multiply(scale).longValueExact();
    }

    static BigDecimal to(Case c, int person) {
        return person < 0 ? c.together(c.begin()) : c.value(person, c.begin());
    }

    static void compareStates(World w, GlassLeaders g, Case c) {
        for (int p = 0; p < w.sorts.size(); p++) {
            for (int h = 0; h <= w.hours; h++) {
                for (int s = 0; s <= w.store; s++) {
                    State at = new State(p, h, s);
                    String of = "(" + p + "," + h + "," + s + ")";
                    boolean going = c.how(at).isEmpty();
                    List<Integer> moves = going ? c.lawful(c.leads[h], at) : List.of();
                    int bits = 0;
                    int forcing = -1;
                    for (int m : moves) {
                        bits |= 1 << m;
                        State t = c.open(at, m);
                        if (forcing < 0 && c.how(t).isEmpty() && c.lawful(c.leads[t.hour], t).size() < 2) {
                            forcing = m;
                        }
                    }
                    same("next" + of, g.next(p, h, s), bits);
                    same("takes" + of, g.takes(p, h, s), c.takes(at));
                    same("trap" + of, g.trap(p, h, s) ? 1 : 0, going && moves.size() < 2 ? 1 : 0);
                    same("force" + of, g.force(p, h, s), forcing);
                    int ever = c.ever(at, new HashMap<>());
                    same("ever" + of, g.ever(p, h, s), ever >= 1000 ? -1 : ever);
                    for (int k = 0; k < w.costs.size(); k++) {
                        same("value " + k + of, g.value(k, p, h, s), times(c.value(k, at), w.scale(h)));
                    }
                }
            }
        }
    }

    static void compareChances(World w, GlassLeaders g, Case c) {
        Map<String, BigDecimal> ends = new HashMap<>();
        BigDecimal[] visits = new BigDecimal[w.sorts.size()];
        Arrays.fill(visits, BigDecimal.ZERO);
        c.follow(c.begin(), BigDecimal.ONE, ends, visits);
        BigDecimal scale = w.scale(0);
        String[] hows = {"there", "lost", "late"};
        for (int h = 0; h <= w.hours; h++) {
            same("scale " + h, g.scale(h), times(BigDecimal.ONE, w.scale(h)));
            for (int i = 0; i < 3; i++) {
                same("arrives " + h + " " + i, g.arrives(h, i),
                        times(ends.getOrDefault(hows[i] + h, BigDecimal.ZERO), scale));
            }
        }
        for (int i = 0; i < 2; i++) {
            same("there " + i, g.there(i), times(ends.getOrDefault(hows[i], BigDecimal.ZERO), scale));
        }
        for (int p = 0; p < visits.length; p++) {
            same("visits " + p, g.visits(p), times(visits[p], scale));
        }
        int least = -1;
        for (int store = 1; store <= 12 && least < 0; store++) {
            Case d = new Case(w);
            d.store = store;
            Map<String, BigDecimal> e = new HashMap<>();
            BigDecimal[] v = new BigDecimal[w.sorts.size()];
            Arrays.fill(v, BigDecimal.ZERO);
            d.follow(d.begin(), BigDecimal.ONE, e, v);
            if (e.getOrDefault("there", BigDecimal.ZERO).compareTo(BigDecimal.ONE) == 0) {
                least = store;
            }
        }
        same("needs", g.needs(), least);
    }

    static void compareMind(World w, GlassLeaders g, Case c) {
        Set<State> all = new HashSet<>();
        c.canCome(c.begin(), all);
        int from = 0;
        for (State s : all) {
            if (!c.how(s).isEmpty()) {
                continue;
            }
            for (int p = 1; p < w.costs.size(); p++) {
                if (c.wouldTake(p, s) != c.wouldTake(0, s)) {
                    from = Math.max(from, s.hour + 1);
                }
            }
        }
        same("mind", g.mind(), from);
        Case vote = new Case(w);
        Arrays.fill(vote.kinds, VOTED);
        same("vote", g.vote(), times(to(vote, -1), w.scale(0)));
    }

    static void permute(List<Integer> row, int n, List<int[]> all) {
        if (row.size() == n) {
            all.add(row.stream().mapToInt(Integer::intValue).toArray());
            return;
        }
        for (int i = 0; i < n; i++) {
            if (!row.contains(i)) {
                List<Integer> longer = new ArrayList<>(row);
                longer.add(i);
                permute(longer, n, all);
            }
        }
    }

    static void compareRounds(World w, GlassLeaders g) {
        int n = w.costs.size();
        List<int[]> all = new ArrayList<>();
        permute(new ArrayList<>(), n, all);
        for (int k = -1; k < n; k++) {
            int best = -1;
            BigDecimal most = null;
            for (int[] round : all) {
                BigDecimal v = to(new Case(w, w.days, round), k);
                if (most == null || v.compareTo(most) > 0) {
                    most = v;
                    best = 0;
                    for (int d : round) {
                        best = best * 10 + d;
                    }
                }
            }
            same("order " + k, g.order(k), best);
            int length = 0;
            most = null;
            for (int d = 1; d <= 12; d++) {
                BigDecimal v = to(new Case(w, d, null), k);
                if (most == null || v.compareTo(most) > 0) {
                    most = v;
                    length = d;
                }
            }
            same("length " + k, g.length(k), length);
        }
    }

    static Case led(World w, int hour, int person) {
        Case d = new Case(w);
        d.leads[hour] = person;
        return d;
    }

    static void compareHours(World w, GlassLeaders g, Case c) {
        int n = w.costs.size();
        BigDecimal scale = w.scale(0);
        int give = -1;
        for (int h = 0; h < w.hours; h++) {
            for (int k = 0; k < n; k++) {
                Case d = led(w, h, k);
                BigDecimal his = to(d, k).subtract(to(c, k));
                BigDecimal leads = to(d, c.leads[h]).subtract(to(c, c.leads[h]));
                same("hour " + k + " " + h, g.hour(k, h), times(his, scale));
                same("price " + h + " " + k, g.price(h, k), times(his.add(leads), scale));
                if (give < 0 && k != c.leads[h] && his.signum() > 0 && leads.signum() > 0) {
                    give = 10 * h + k;
                }
            }
        }
        same("give", g.give(), give);
        for (int a = 0; a < n; a++) {
            for (int b = 0; b < n; b++) {
                if (a != b) {
                    compareTwo(w, g, c, a, b);
                }
            }
        }
        int holds = -1;
        for (int a = 0; a < n; a++) {
            for (int b = a + 1; b < n; b++) {
                Case d = pact(w, a, b);
                if (holds < 0 && to(d, a).compareTo(to(c, a)) > 0 && to(d, b).compareTo(to(c, b)) > 0) {
                    holds = 10 * a + b;
                }
            }
        }
        same("holds", g.holds(), holds);
    }

    static Case pact(World w, int a, int b) {
        Case d = new Case(w);
        d.kinds[a] = PACT;
        d.kinds[b] = PACT;
        d.pact = new int[] {a, b};
        return d;
    }

    static void compareTwo(World w, GlassLeaders g, Case c, int a, int b) {
        Case d = pact(w, a, b);
        same("pact 0 " + a + b, g.pact(a, b, 0), times(to(d, a).subtract(to(c, a)), w.scale(0)));
        same("pact 1 " + a + b, g.pact(a, b, 1), times(to(d, b).subtract(to(c, b)), w.scale(0)));
        int swap = -1;
        for (int x = 0; x < w.hours && swap < 0; x++) {
            for (int y = 0; y < w.hours && swap < 0; y++) {
                if (c.leads[x] == a && c.leads[y] == b) {
                    Case e = new Case(w);
                    e.leads[x] = b;
                    e.leads[y] = a;
                    if (to(e, a).compareTo(to(c, a)) > 0 && to(e, b).compareTo(to(c, b)) > 0) {
                        swap = 100 * x + y;
                    }
                }
            }
        }
        same("swap " + a + b, g.swap(a, b), swap);
    }

    static void comparePersons(World w, GlassLeaders g, Case c) {
        BigDecimal scale = w.scale(0);
        same("all", g.all(), times(to(c, -1), scale));
        for (int k = 0; k < w.costs.size(); k++) {
            BigDecimal alone = c.alone(k, c.begin());
            same("alone " + k, g.alone(k), times(alone, scale));
            same("beside " + k, g.beside(k), times(alone.subtract(to(c, k)), scale));
            int best = -1;
            BigDecimal[] as = new BigDecimal[6];
            for (int kind = 0; kind < 6; kind++) {
                Case d = new Case(w);
                d.kinds[k] = kind;
                as[kind] = to(d, k);
                if (best < 0 || as[kind].compareTo(as[best]) > 0) {
                    best = kind;
                }
            }
            same("asks " + k, g.asks(k), best);
            same("blind " + k, g.blind(k), times(as[AHEAD].subtract(as[BLIND]), scale));
            same("proof " + k, g.proof(k), proof(w, c, k));
        }
        for (int rule = 0; rule < w.law.size(); rule++) {
            Case d = new Case(w);
            d.law = new ArrayList<>(w.law);
            d.law.remove(rule);
            for (int k = -1; k < w.costs.size(); k++) {
                same("without " + rule + " " + k, g.without(rule, k), times(to(d, k).subtract(to(c, k)), scale));
            }
        }
    }

    static int proof(World w, Case c, int person) {
        State s = c.begin();
        while (c.how(s).isEmpty()) {
            List<Integer> moves = c.lawful(person, s);
            int move = s.hour < w.rows.size() ? w.rows.get(s.hour) : 0;
            move = moves.contains(move) ? move : 0;
            BigDecimal told = c.mean(s, move, t -> c.alone(person, t));
            for (int m : moves) {
                if (c.mean(s, m, t -> c.alone(person, t)).compareTo(told) > 0) {
                    return s.hour;
                }
            }
            s = c.open(s, move);
        }
        return -1;
    }

    static void compareRows(World w, GlassLeaders g, Case c) {
        State s = c.begin();
        int judged = -1;
        for (int i = 0; i < w.rows.size() && judged < 0; i++) {
            if (!c.how(s).isEmpty()) {
                judged = 10 * i + 2;
            } else if (!c.lawful(c.leads[s.hour], s).contains(w.rows.get(i))) {
                judged = 10 * i + 1;
            } else {
                s = c.open(s, w.rows.get(i));
            }
        }
        same("judge", g.judge(), judged);
    }

    static void compareJourney(World w, GlassLeaders g, Case c, int seed) {
        long drawn = seed & 0xffffffffL;
        State s = c.begin();
        List<State> states = new ArrayList<>();
        List<Integer> moves = new ArrayList<>();
        states.add(s);
        while (c.how(s).isEmpty()) {
            int m = c.takes(s);
            moves.add(m);
            int n = m == 0 ? 0 : w.snowOf(m - 1, s.hour);
            boolean shut = false;
            if (n > 0) {
                drawn = (drawn * 1103515245L + 12345L) & 0xffffffffL;
                shut = (drawn >> 16 & 0x7fff) % 16 < n;
            }
            s = shut ? c.stayed(s) : c.open(s, m);
            states.add(s);
        }
        same("run " + seed, g.run(seed), moves.size());
        same("ended", g.ended(), List.of("late", "there", "lost").indexOf(c.how(s)));
        for (int h = 0; h <= 24; h++) {
            same("was place " + h, g.was(h, 0), h < states.size() ? states.get(h).place : -1);
            same("was stores " + h, g.was(h, 1), h < states.size() ? states.get(h).stores : -1);
            same("was move " + h, g.was(h, 2), h < moves.size() ? moves.get(h) : -1);
        }
    }

    static void compareTold(World w, GlassLeaders g, Case c) {
        int snowy = 0;
        for (int h = 0; h < w.hours; h++) {
            snowy += w.snowy(h) ? 1 : 0;
        }
        int[] due = {w.sorts.size(), w.ways.size(), w.costs.size(), w.hours, w.store, w.lost, w.start, snowy,
            w.law.size()};
        for (int i = 0; i < due.length; i++) {
            same("told " + i, g.told(i), due[i]);
        }
        for (int h = 0; h < 24; h++) {
            same("whose " + h, g.whose(h), c.leads[h]);
            for (int i = 0; i < w.ways.size(); i++) {
                same("snow " + i + " " + h, g.snow(i, h), w.snowOf(i, h));
            }
        }
        for (int k = 0; k < w.costs.size(); k++) {
            same("costs " + k, g.wants(k, -1), w.costs.get(k));
            for (int p = 0; p < w.sorts.size(); p++) {
                same("wants " + k + " " + p, g.wants(k, p), w.wants.getOrDefault(List.of(k, p), 0));
            }
        }
    }

    static void tellAll(World w, GlassLeaders g, Random r) {
        Arrays.fill(w.turns, -1);
        for (int k = 0; k < w.costs.size(); k++) {
            w.kinds[k] = r.nextBoolean() ? 0 : r.nextInt(6);
            g.kind(k, w.kinds[k]);
        }
        for (int h = 0; h < 24; h++) {
            if (r.nextInt(3) == 0) {
                w.plan[h] = r.nextInt(w.ways.size() + 1);
                g.plan(h, w.plan[h]);
            }
            if (r.nextInt(6) == 0) {
                w.turns[h] = r.nextInt(w.costs.size());
                g.turn(h, w.turns[h]);
            }
        }
        if (r.nextInt(3) == 0) {
            w.days = 1 + r.nextInt(4);
            g.days(w.days);
        }
        for (int i = r.nextInt(6); i > 0; i--) {
            int move = r.nextInt(w.ways.size() + 1);
            w.rows.add(move);
            g.row(move);
        }
    }

    static final GlassLeaders used = new GlassLeaders();

    static void compare(int seed) {
        Random r = new Random(seed * 0x9E3779B97F4A7C15L + 77);
        World w = new World();
        String land = makeLand(w, r, seed % 10 == 9);
        String law = makeLaw(w, r);
        if (land.length() > 600 || law.length() > 600) {
            return;
        }
        about = "seed " + seed + " [" + land + "] [" + law + "] ";
        // one object sees many lands: nothing of an earlier one may be left
        GlassLeaders g = seed % 3 == 0 ? new GlassLeaders() : used;
        feed(g, land);
        same("land", g.land(land.length()), w.sorts.size());
        feed(g, law);
        same("law", g.law(law.length()), w.law.size());
        tellAll(w, g, r);
        Case c = new Case(w);
        compareTold(w, g, c);
        compareStates(w, g, c);
        comparePersons(w, g, c);
        compareRows(w, g, c);
        compareRounds(w, g);
        compareHours(w, g, c);
        compareChances(w, g, c);
        compareMind(w, g, c);
        compareJourney(w, g, c, r.nextInt());
        compareJourney(w, g, c, r.nextInt());
    }

    public static void main(String[] args) {
        int seeds = args.length > 0 ? Integer.parseInt(args[0]) : 1500;
        for (int seed = 0; seed < seeds; seed++) {
            compare(seed);
        }
        System.out.println(compared + " answers compared, " + wrong + " not as due");
        if (wrong != 0) {
            System.exit(1);
        }
    }
}
