import java.util.Arrays;
import java.util.NoSuchElementException;

/** Each hour another leads: a land, a law, leaders by the glass, and what comes of it to each. */
public final class GlassLeaders {
    public static final int NONE = -1;

    private static final int MOST_BYTES = 600;
    private static final int MOST_CLAUSES = 60;
    private static final int MOST_PLACES = 12;
    private static final int MOST_WAYS = 24;
    private static final int MOST_PERSONS = 5;
    private static final int MOST_RULES = 10;
    private static final int MOST_OPEN = 6;
    private static final int MOST_SNOWY = 10;
    private static final int MOST_IMAGES = 3;
    private static final int MOST_STORE = 12;
    private static final int LONGEST_TURN = 12;
    private static final int DAY = 24;
    private static final int ROUNDS = 120;
    private static final int LEVELS = MOST_STORE + 1;
    private static final int ALL_LEVELS = (1 << LEVELS) - 1;
    private static final int LAYER = MOST_PLACES * LEVELS;

    private static final int FAULT_STANDS = 1;
    private static final int FAULT_NUMBER = 2;
    private static final int FAULT_MANY = 3;
    private static final int FAULT_EMPTY = 4;

    private static final int PLAIN = 0;
    private static final int HUT = 1;
    private static final int END = 2;

    /* How a state has ended; GOING: it has not. */
    private static final int GOING = 0;
    private static final int THERE = 1;
    private static final int LOST = 2;
    private static final int LATE = 3;
    private static final int FATES = 4;

    /* Kinds of leaders; the last two are only tried out, never told. */
    private static final int AHEAD = 0;
    private static final int OWN = 1;
    private static final int KIND = 2;
    private static final int SPEND = 3;
    private static final int BLIND = 4;
    private static final int PLANNED = 5;
    private static final int PACT = 6;
    private static final int VOTED = 7;

    /* The columns of a state's row in a table: two chances, what comes to each, what each dreams of. */
    private static final int CHANCE_THERE = 0;
    private static final int CHANCE_LOST = 1;
    private static final int WORTH = 2;
    private static final int DREAM = WORTH + MOST_PERSONS;
    private static final int COLUMNS = DREAM + MOST_PERSONS;

    private static final int INDEX = 0;
    private static final int ELEMENT = 1;
    private static final int ARGUMENT = 2;
    private static final int STATE = 3;

    private Land land = new Land();
    private Land spareLand = new Land();
    private Law law = new Law();
    private Law spareLaw = new Law();
    private final Text text = new Text();
    private final LandReader landReader = new LandReader(text, spareLand);
    private final LawReader lawReader = new LawReader(text, spareLaw);
    private final Scene plain = new Scene();
    private final Scene tried = new Scene();
    private final Table whole = new Table(true);
    private final Table rough = new Table(false);
    private final Solver solver = new Solver(land, law, plain, whole);
    private final Walker walker = new Walker(solver);
    private final Party party = new Party();
    private final Party[] images = new Party[MOST_IMAGES];
    private final int[] refused = new int[STATE + 1];
    private int imageCount = 0;
    /* Whether the whole table tells how it is now: what nothing has changed is not worked again. */
    private boolean solved = false;

    public GlassLeaders() {
        for (int i = 0; i < MOST_IMAGES; i++) {
            images[i] = new Party();
        }
    }

    public int feed(int a, int b, int c, int d, int e) {
        if (text.size + 20 > MOST_BYTES) {
            return NONE;
        }
        text.put(a);
        text.put(b);
        text.put(c);
        text.put(d);
        text.put(e);
        return text.size;
    }

    public int land(int n) throws IllegalArgumentException {
        needArgument(n >= 0 && n <= text.size);
        boolean stands = landReader.read(spareLand, n);
        text.size = 0;
        if (!stands) {
            return text.fault - 10;
        }
        Land old = land;
        land = spareLand;
        spareLand = old;
        law.forget();
        party.forget();
        imageCount = 0;
        settle();
        return land.places;
    }

    public int law(int n) throws IllegalArgumentException {
        needArgument(n >= 0 && n <= text.size);
        boolean stands = lawReader.read(spareLaw, n);
        text.size = 0;
        if (!stands) {
            return text.fault - 10;
        }
        Law old = law;
        law = spareLaw;
        spareLaw = old;
        settle();
        return law.rules;
    }

    public int fault() {
        return text.faultAt;
    }

    public int told(int what) throws IllegalArgumentException {
        needArgument(what >= 0 && what <= 8);
        switch (what) {
            case 0: return land.places;
            case 1: return land.ways;
            case 2: return land.persons;
            case 3: return land.hours;
            case 4: return land.store;
            case 5: return land.lost;
            case 6: return land.start;
            case 7: return land.snowyBelow(land.hours);
            default: return law.rules;
        }
    }

    public int snow(int way, int hour) throws NoSuchElementException, IllegalArgumentException {
        needElement(way >= 0 && way < land.ways);
        needArgument(isHourOfDay(hour));
        return land.snowOf(way, hour);
    }

    public int wants(int person, int place) throws IndexOutOfBoundsException, IllegalArgumentException {
        needPerson(person);
        needArgument(place >= NONE && place < land.places);
        return place == NONE ? land.cost[person] : land.wish[person * MOST_PLACES + place];
    }

    public int kind(int person, int kind) throws IndexOutOfBoundsException, IllegalArgumentException {
        needPerson(person);
        needArgument(kind >= AHEAD && kind <= PLANNED);
        int was = party.kinds[person];
        party.kinds[person] = kind;
        solved = false;
        return was;
    }

    public int plan(int hour, int move) throws IllegalArgumentException {
        needArgument(isHourOfDay(hour) && isMove(move));
        int was = party.plan[hour];
        party.plan[hour] = move;
        solved = false;
        return was;
    }

    public int turn(int hour, int person) throws IndexOutOfBoundsException, IllegalArgumentException {
        needPersonOrNone(person);
        needArgument(isHourOfDay(hour));
        int was = party.turns[hour];
        party.turns[hour] = person;
        solved = false;
        return was;
    }

    public int days(int hours) throws IllegalArgumentException {
        needArgument(hours >= 1 && hours <= LONGEST_TURN);
        int was = party.days;
        party.days = hours;
        solved = false;
        return was;
    }

    public int whose(int hour) throws IllegalArgumentException, IllegalStateException {
        needLand();
        needArgument(isHourOfDay(hour));
        return party.leaderOf(hour, land.persons);
    }

    public int next(int place, int hour, int stores) throws IllegalArgumentException, IllegalStateException {
        needLand();
        needState(place, hour, stores);
        return walker.lawfulNow(party, place, hour, stores);
    }

    public int takes(int place, int hour, int stores) throws IllegalArgumentException, IllegalStateException {
        needLand();
        needState(place, hour, stores);
        solve();
        return whole.moves[whole.spot(place, hour, stores)];
    }

    public long value(int person, int place, int hour, int stores)
            throws IndexOutOfBoundsException, IllegalArgumentException, IllegalStateException {
        needLand();
        needPerson(person);
        needState(place, hour, stores);
        solve();
        return whole.cells[whole.spot(place, hour, stores) * COLUMNS + WORTH + person];
    }

    public long scale(int hour) throws IllegalArgumentException, IllegalStateException {
        needLand();
        needArgument(hour >= 0 && hour <= land.hours);
        return land.scales[hour];
    }

    public long all() throws IllegalStateException {
        needLand();
        solve();
        return atStart(whole, plain, NONE);
    }

    public long alone(int person) throws IndexOutOfBoundsException, IllegalStateException {
        needLand();
        needPerson(person);
        tried.loadAlone(land, party, person);
        solver.sweep(tried, rough, land.hours);
        return atStart(rough, tried, person);
    }

    public int run(int seed) throws IllegalStateException {
        needLand();
        solve();
        return walker.journey(party, whole, seed);
    }

    public int was(int hour, int what) throws IllegalArgumentException {
        needArgument(hour >= 0 && hour <= DAY && what >= 0 && what <= 2);
        if (hour > party.gone || (what == 2 && hour == party.gone)) {
            return NONE;
        }
        switch (what) {
            case 0: return party.wherePlaces[hour];
            case 1: return party.whereStores[hour];
            default: return party.whichMoves[hour];
        }
    }

    public int ended() {
        if (party.gone == NONE) {
            return NONE;
        }
        return party.fate == LATE ? 0 : party.fate;
    }

    public int row(int move) throws IllegalArgumentException {
        needArgument(isMove(move));
        if (party.rowCount >= DAY) {
            return NONE;
        }
        party.rows[party.rowCount] = move;
        party.rowCount++;
        return party.rowCount;
    }

    public int clear() {
        int gone = party.rowCount;
        party.rowCount = 0;
        return gone;
    }

    public int judge() throws IllegalStateException {
        needLand();
        return walker.judgeRows(party);
    }

    public int proof(int person) throws IndexOutOfBoundsException, IllegalStateException {
        needLand();
        needPerson(person);
        tried.loadAlone(land, party, person);
        solver.sweep(tried, whole, land.hours);
        solved = false;
        return walker.proveRows(party, person);
    }

    public long hour(int person, int hour)
            throws IndexOutOfBoundsException, IllegalArgumentException, IllegalStateException {
        needLand();
        needPerson(person);
        needArgument(hour >= 0 && hour < land.hours);
        solve();
        tryHour(hour, person);
        return gain(person);
    }

    public int give() throws IllegalStateException {
        needLand();
        solve();
        for (int hour = 0; hour < land.hours; hour++) {
            int leader = plain.leads[hour];
            for (int person = 0; person < land.persons; person++) {
                if (person == leader) {
                    continue;
                }
                tryHour(hour, person);
                if (gain(leader) > 0 && gain(person) > 0) {
                    return 10 * hour + person;
                }
            }
        }
        return NONE;
    }

    public long price(int hour, int person)
            throws IndexOutOfBoundsException, IllegalArgumentException, IllegalStateException {
        needLand();
        needPerson(person);
        needArgument(hour >= 0 && hour < land.hours);
        solve();
        tryHour(hour, person);
        return gain(person) + gain(plain.leads[hour]);
    }

    public int order(int person) throws IndexOutOfBoundsException, IllegalStateException {
        needLand();
        needPersonOrNone(person);
        tried.load(land, party);
        int best = NONE;
        long most = 0;
        boolean more = true;
        for (int i = 0; i < ROUNDS && more; i++) {
            tried.lead(land, party, party.days);
            solver.sweep(tried, rough, land.hours);
            long worth = atStart(rough, tried, person);
            if (best == NONE || worth > most) {
                best = tried.roundDigits(land.persons);
                most = worth;
            }
            more = tried.nextRound(land.persons);
        }
        return best;
    }

    public int length(int person) throws IndexOutOfBoundsException, IllegalStateException {
        needLand();
        needPersonOrNone(person);
        tried.load(land, party);
        int best = NONE;
        long most = 0;
        for (int days = 1; days <= LONGEST_TURN; days++) {
            tried.lead(land, party, days);
            solver.sweep(tried, rough, land.hours);
            long worth = atStart(rough, tried, person);
            if (best == NONE || worth > most) {
                best = days;
                most = worth;
            }
        }
        return best;
    }

    public boolean trap(int place, int hour, int stores) throws IllegalArgumentException, IllegalStateException {
        needLand();
        needState(place, hour, stores);
        return walker.isTrap(party, place, hour, stores);
    }

    public int force(int place, int hour, int stores) throws IllegalArgumentException, IllegalStateException {
        needLand();
        needState(place, hour, stores);
        return walker.forcing(party, place, hour, stores);
    }

    public int ever(int place, int hour, int stores) throws IllegalArgumentException, IllegalStateException {
        needLand();
        needState(place, hour, stores);
        return walker.fewestHours(party, place, hour, stores);
    }

    public long there(int what) throws IllegalArgumentException, IllegalStateException {
        needLand();
        needArgument(what == 0 || what == 1);
        solve();
        int column = what == 0 ? CHANCE_THERE : CHANCE_LOST;
        return whole.cells[startCell(whole, plain) + column];
    }

    public long blind(int person) throws IndexOutOfBoundsException, IllegalStateException {
        needLand();
        needPerson(person);
        return asKind(person, AHEAD) - asKind(person, BLIND);
    }

    public int asks(int person) throws IndexOutOfBoundsException, IllegalStateException {
        needLand();
        needPerson(person);
        int best = AHEAD;
        long most = asKind(person, AHEAD);
        for (int kind = OWN; kind <= PLANNED; kind++) {
            long worth = asKind(person, kind);
            if (worth > most) {
                best = kind;
                most = worth;
            }
        }
        return best;
    }

    public long beside(int person) throws IndexOutOfBoundsException, IllegalStateException {
        needLand();
        needPerson(person);
        solve();
        tried.loadAlone(land, party, person);
        solver.sweep(tried, rough, land.hours);
        return gain(person);
    }

    public long pact(int person, int other, int what)
            throws IndexOutOfBoundsException, IllegalArgumentException, IllegalStateException {
        needLand();
        needPerson(person);
        needPerson(other);
        needArgument(person != other && (what == 0 || what == 1));
        solve();
        tryPact(person, other);
        return gain(what == 0 ? person : other);
    }

    public int holds() throws IllegalStateException {
        needLand();
        solve();
        for (int one = 0; one < land.persons; one++) {
            for (int two = one + 1; two < land.persons; two++) {
                tryPact(one, two);
                if (gain(one) > 0 && gain(two) > 0) {
                    return 10 * one + two;
                }
            }
        }
        return NONE;
    }

    public int mind() throws IllegalStateException {
        needLand();
        solve();
        solver.look(plain, whole);
        return walker.oneMind(party);
    }

    public long arrives(int hour, int what) throws IllegalArgumentException, IllegalStateException {
        needLand();
        needArgument(hour >= 0 && hour <= land.hours && what >= 0 && what <= 2);
        solve();
        solver.look(plain, whole);
        walker.flowAll();
        return walker.arrivals[hour * FATES + what + THERE];
    }

    public long visits(int place) throws IllegalArgumentException, IllegalStateException {
        needLand();
        needArgument(place >= 0 && place < land.places);
        solve();
        solver.look(plain, whole);
        walker.flowAll();
        return walker.stays[place];
    }

    public long without(int rule, int person)
            throws IndexOutOfBoundsException, NoSuchElementException, IllegalStateException {
        needLand();
        needPersonOrNone(person);
        needElement(rule >= 0 && rule < law.rules);
        solve();
        tried.load(land, party);
        tried.skip = rule;
        solver.sweep(tried, rough, land.hours);
        return gain(person);
    }

    public int swap(int person, int other)
            throws IndexOutOfBoundsException, IllegalArgumentException, IllegalStateException {
        needLand();
        needPerson(person);
        needPerson(other);
        needArgument(person != other);
        solve();
        for (int one = 0; one < land.hours; one++) {
            for (int two = 0; two < land.hours; two++) {
                if (plain.leads[one] != person || plain.leads[two] != other) {
                    continue;
                }
                trySwap(one, two);
                if (gain(person) > 0 && gain(other) > 0) {
                    return 100 * one + two;
                }
            }
        }
        return NONE;
    }

    public long vote() throws IllegalStateException {
        needLand();
        tried.load(land, party);
        Arrays.fill(tried.kinds, VOTED);
        solver.sweep(tried, rough, land.hours);
        return atStart(rough, tried, NONE);
    }

    public int needs() throws IllegalStateException {
        needLand();
        tried.load(land, party);
        for (int store = 1; store <= MOST_STORE; store++) {
            tried.store = store;
            solver.sweep(tried, rough, land.hours);
            if (rough.cells[startCell(rough, tried) + CHANCE_THERE] == land.scales[0]) {
                return store;
            }
        }
        return NONE;
    }

    public int image() {
        if (imageCount >= MOST_IMAGES) {
            return NONE;
        }
        images[imageCount].copy(party);
        imageCount++;
        return imageCount;
    }

    public int on() {
        if (imageCount <= 0) {
            return NONE;
        }
        imageCount--;
        party.copy(images[imageCount]);
        solved = false;
        return imageCount;
    }

    public int status(int what) {
        return what < INDEX || what > STATE ? NONE : refused[what];
    }

    public int count(int what) {
        switch (what) {
            case 0: return party.rowCount;
            case 1: return imageCount;
            case 2: return text.size;
            case 3: return party.toldTurns();
            default: return NONE;
        }
    }

    private void needLand() {
        if (land.places < 1) {
            refused[STATE]++;
            throw new IllegalStateException("no land");
        }
    }

    private void needPerson(int person) {
        if (person < 0 || person >= land.persons) {
            refused[INDEX]++;
            throw new IndexOutOfBoundsException("no such person");
        }
    }

    private void needPersonOrNone(int person) {
        if (person != NONE) {
            needPerson(person);
        }
    }

    private void needElement(boolean known) {
        if (!known) {
            refused[ELEMENT]++;
            throw new NoSuchElementException("no such way or rule");
        }
    }

    private void needArgument(boolean fits) {
        if (!fits) {
            refused[ARGUMENT]++;
            throw new IllegalArgumentException("out of its bounds");
        }
    }

    private void needState(int place, int hour, int stores) {
        needArgument(place >= 0 && place < land.places && hour >= 0 && hour <= land.hours
                && stores >= 0 && stores <= land.store);
    }

    private boolean isHourOfDay(int hour) {
        return hour >= 0 && hour < DAY;
    }

    private boolean isMove(int move) {
        return move >= 0 && move <= land.ways;
    }

    /* A new land or law: nothing that was worked out by the old one may be used again. */
    private void settle() {
        solver.land = land;
        solver.law = law;
        solver.forgetWork();
        solved = false;
    }

    private void solve() {
        if (!solved) {
            plain.load(land, party);
            solver.sweep(plain, whole, land.hours);
            solved = true;
        }
    }

    private int startCell(Table table, Scene scene) {
        return table.spot(land.start, 0, scene.store) * COLUMNS;
    }

    private long atStart(Table table, Scene scene, int person) {
        int cell = startCell(table, scene) + WORTH;
        if (person != NONE) {
            return table.cells[cell + person];
        }
        long sum = 0;
        for (int i = 0; i < land.persons; i++) {
            sum += table.cells[cell + i];
        }
        return sum;
    }

    /* What was tried out last, less as it is. */
    private long gain(int person) {
        return atStart(rough, tried, person) - atStart(whole, plain, person);
    }

    private void tryHour(int hour, int person) {
        tried.load(land, party);
        tried.leads[hour] = person;
        rough.keep(whole, hour + 1);
        solver.sweep(tried, rough, hour);
    }

    private void trySwap(int one, int two) {
        tried.load(land, party);
        tried.leads[one] = plain.leads[two];
        tried.leads[two] = plain.leads[one];
        int last = Math.max(one, two);
        rough.keep(whole, last + 1);
        solver.sweep(tried, rough, last);
    }

    private void tryPact(int one, int two) {
        tried.load(land, party);
        tried.kinds[one] = PACT;
        tried.kinds[two] = PACT;
        tried.pactColumns = 1 << WORTH + one | 1 << WORTH + two;
        solver.sweep(tried, rough, land.hours);
    }

    private long asKind(int person, int kind) {
        tried.load(land, party);
        tried.kinds[person] = kind;
        solver.sweep(tried, rough, land.hours);
        return atStart(rough, tried, person);
    }

    /** The tape, and its words, numbers and signs from the left, with the first fault met. */
    private static final class Text {
        static final int CLOSE = 0;
        static final int WORD = 1;
        static final int NUMBER = 2;
        static final int SIGN = 3;
        static final int HUGE = 1000000;

        final int[] bytes = new int[MOST_BYTES];
        int size = 0;
        int limit = 0;
        int begin = 0;
        int after = 0;
        int sort = CLOSE;
        int number = 0;
        int fault = 0;
        int faultAt = NONE;

        void put(int four) {
            for (int shift = 24; shift >= 0; shift -= 8) {
                if (size < MOST_BYTES) {
                    bytes[size] = four >>> shift & 255;
                    size++;
                }
            }
        }

        void open(int length) {
            limit = length;
            after = 0;
            fault = 0;
            faultAt = NONE;
            advance();
        }

        void advance() {
            begin = after;
            while (begin < limit && bytes[begin] == ' ') {
                begin++;
            }
            after = begin;
            number = 0;
            while (after < limit && isDigit(bytes[after])) {
                number = Math.min(HUGE, number * 10 + bytes[after] - '0');
                after++;
            }
            sort = after > begin ? NUMBER : WORD;
            while (sort == WORD && after < limit && isLetter(bytes[after])) {
                after++;
            }
            if (after == begin) {
                sort = begin < limit ? SIGN : CLOSE;
                after = begin < limit ? begin + 1 : begin;
            }
        }

        private static boolean isDigit(int sign) {
            return sign >= '0' && sign <= '9';
        }

        private static boolean isLetter(int sign) {
            return sign >= 'a' && sign <= 'z';
        }

        boolean isWord(String word) {
            if (sort != WORD || after - begin != word.length()) {
                return false;
            }
            for (int i = 0; i < word.length(); i++) {
                if (bytes[begin + i] != word.charAt(i)) {
                    return false;
                }
            }
            return true;
        }

        boolean isSign(char sign) {
            return sort == SIGN && bytes[begin] == sign;
        }

        boolean fail(int which) {
            fault = which;
            faultAt = begin;
            return false;
        }

        /* Whether a number of these bounds stands here. */
        boolean numeral(int low, int high) {
            if (sort != NUMBER) {
                return fail(FAULT_STANDS);
            }
            return number >= low && number <= high || fail(FAULT_NUMBER);
        }

        boolean pass(char sign) {
            if (!isSign(sign)) {
                return fail(FAULT_STANDS);
            }
            advance();
            return true;
        }
    }

    /** A land as it is told. */
    private static final class Land {
        final int[] sorts = new int[MOST_PLACES];
        final int[] oneEnd = new int[MOST_WAYS];
        final int[] otherEnd = new int[MOST_WAYS];
        final int[] snows = new int[MOST_WAYS * DAY];
        final int[] snowy = new int[DAY];
        final int[] cost = new int[MOST_PERSONS];
        final int[] wish = new int[MOST_PERSONS * MOST_PLACES];
        final long[] scales = new long[DAY + 1];
        /* By place and way: the place at which the way comes out; NONE, if it is not at the place. */
        final int[] across = new int[MOST_PLACES * MOST_WAYS];
        int places = 0;
        int ways = 0;
        int persons = 0;
        int hours = 0;
        int store = 0;
        int lost = 0;
        int start = 0;

        void begin() {
            Arrays.fill(snows, 0);
            Arrays.fill(snowy, 0);
            Arrays.fill(wish, 0);
            places = 0;
            ways = 0;
            persons = 0;
            hours = 12;
            store = 12;
            lost = 0;
            start = 0;
        }

        void finish() {
            scales[hours] = 1;
            for (int hour = hours - 1; hour >= 0; hour--) {
                scales[hour] = scales[hour + 1] * shares(hour);
            }
            Arrays.fill(across, NONE);
            for (int way = 0; way < ways; way++) {
                across[oneEnd[way] * MOST_WAYS + way] = otherEnd[way];
                across[otherEnd[way] * MOST_WAYS + way] = oneEnd[way];
            }
        }

        /* Into how many shares chance cuts an hour. */
        int shares(int hour) {
            return snowy[hour] == 0 ? 1 : 16;
        }

        int snowyBelow(int limit) {
            int sum = 0;
            for (int hour = 0; hour < limit; hour++) {
                sum += snowy[hour];
            }
            return sum;
        }

        int snowOf(int way, int hour) {
            return snows[way * DAY + hour];
        }

        int storesAfter(int place, int stores, int store) {
            return sorts[place] == HUT ? store : stores - 1;
        }

        int fateOf(int place, int hour, int stores) {
            if (sorts[place] == END) {
                return THERE;
            }
            if (stores == 0) {
                return LOST;
            }
            return hour >= hours ? LATE : GOING;
        }

        long worthTo(int person, int place, int hour, int fate) {
            int wished = fate == LOST ? -lost : wish[person * MOST_PLACES + place];
            return wished - hour * cost[person];
        }
    }

    /** Reads a land from the text. */
    private static final class LandReader {
        private final Text text;
        private Land land;

        LandReader(Text text, Land land) {
            this.text = text;
            this.land = land;
        }

        boolean read(Land into, int length) {
            land = into;
            land.begin();
            text.open(length);
            for (int clause = 0; clause <= MOST_CLAUSES && text.sort != Text.CLOSE; clause++) {
                if (!readClause(clause < MOST_CLAUSES) || !text.pass(';')) {
                    return false;
                }
            }
            if (land.places == 0 || land.persons == 0) {
                return text.fail(FAULT_EMPTY);
            }
            land.finish();
            return true;
        }

        private boolean readClause(boolean room) {
            if (text.isWord("place")) {
                return place(room);
            }
            if (text.isWord("way")) {
                return path(room);
            }
            if (text.isWord("person")) {
                return someone(room);
            }
            if (text.isWord("snow")) {
                return snowfall(room);
            }
            if (text.isWord("wants")) {
                return wish(room);
            }
            return readSetting(room);
        }

        private boolean readSetting(boolean room) {
            if (text.isWord("hours")) {
                boolean stands = numbered(room, 1, DAY);
                land.hours = stands ? text.number : land.hours;
                return passed(stands);
            }
            if (text.isWord("store")) {
                boolean stands = numbered(room, 1, MOST_STORE);
                land.store = stands ? text.number : land.store;
                return passed(stands);
            }
            if (text.isWord("lost")) {
                boolean stands = numbered(room, 0, 99);
                land.lost = stands ? text.number : land.lost;
                return passed(stands);
            }
            if (text.isWord("start")) {
                boolean stands = numbered(room, 0, land.places - 1);
                land.start = stands ? text.number : land.start;
                return passed(stands);
            }
            return text.fail(FAULT_STANDS);
        }

        /* Goes over a clause's word, if there is room for it, to its first number. */
        private boolean numbered(boolean room, int low, int high) {
            return entered(room) && text.numeral(low, high);
        }

        private boolean entered(boolean room) {
            if (!room) {
                return text.fail(FAULT_MANY);
            }
            text.advance();
            return true;
        }

        private boolean numberedNext(int low, int high) {
            text.advance();
            return text.numeral(low, high);
        }

        private boolean passed(boolean stands) {
            if (stands) {
                text.advance();
            }
            return stands;
        }

        private boolean place(boolean room) {
            if (!entered(room && land.places < MOST_PLACES)) {
                return false;
            }
            int sort = text.isWord("hut") ? HUT : text.isWord("end") ? END : PLAIN;
            land.sorts[land.places] = sort;
            land.places++;
            return sort == PLAIN || passed(true);
        }

        private boolean path(boolean room) {
            if (!numbered(room && land.ways < MOST_WAYS, 0, land.places - 1)) {
                return false;
            }
            int one = text.number;
            if (!numberedNext(0, land.places - 1)) {
                return false;
            }
            if (text.number == one) {
                return text.fail(FAULT_NUMBER);
            }
            land.oneEnd[land.ways] = one;
            land.otherEnd[land.ways] = text.number;
            land.ways++;
            return passed(true);
        }

        private boolean someone(boolean room) {
            if (!numbered(room && land.persons < MOST_PERSONS, 0, 9)) {
                return false;
            }
            land.cost[land.persons] = text.number;
            land.persons++;
            return passed(true);
        }

        private boolean snowfall(boolean room) {
            if (!numbered(room, 0, land.ways - 1)) {
                return false;
            }
            int way = text.number;
            if (!numberedNext(0, DAY - 1)) {
                return false;
            }
            int first = text.number;
            if (!numberedNext(first, DAY - 1)) {
                return false;
            }
            int last = text.number;
            if (snowyWith(first, last) > MOST_SNOWY) {
                return text.fail(FAULT_NUMBER);
            }
            if (!numberedNext(1, 16)) {
                return false;
            }
            for (int hour = first; hour <= last; hour++) {
                land.snows[way * DAY + hour] = text.number;
                land.snowy[hour] = 1;
            }
            return passed(true);
        }

        private int snowyWith(int first, int last) {
            int sum = 0;
            for (int hour = 0; hour < DAY; hour++) {
                if (land.snowy[hour] != 0 || hour >= first && hour <= last) {
                    sum++;
                }
            }
            return sum;
        }

        private boolean wish(boolean room) {
            if (!numbered(room, 0, land.persons - 1)) {
                return false;
            }
            int person = text.number;
            if (!numberedNext(0, land.places - 1)) {
                return false;
            }
            int place = text.number;
            if (!numberedNext(0, 99)) {
                return false;
            }
            land.wish[person * MOST_PLACES + place] = text.number;
            return passed(true);
        }
    }

    /** A law: of each rule the steps by which its condition is worked on a pile. */
    private static final class Law {
        static final int RESTING = 0;
        static final int GOING_ON = 1;

        /* A step at or above 0 is a number; these are facts, found at NO_FACT less the step. */
        static final int NO_FACT = -1;
        static final int HOUR = 0;
        static final int LEFT = 1;
        static final int STORES = 2;
        static final int AT_HUT = 3;
        static final int LEADER = 4;
        static final int PLACE = 5;
        static final int TO = 6;
        static final int SNOW = 7;
        static final int FACTS = 8;

        static final int NOT = -20;
        static final int OR = -21;
        static final int AND = -22;
        static final int LESS = -23;
        static final int MORE = -24;
        static final int SAME = -25;
        static final int PLUS = -26;
        static final int MINUS = -27;
        static final int TIMES = -28;
        static final int OVER = -29;

        /* Six open at one time leave at most some twenty numbers waiting. */
        static final int PILE = 64;

        final int[] abouts = new int[MOST_RULES];
        final int[] starts = new int[MOST_RULES + 1];
        final int[] steps = new int[MOST_BYTES];
        final int[] facts = new int[FACTS];
        private final int[] pile = new int[PILE];
        int rules = 0;
        private int size = 0;

        void forget() {
            rules = 0;
            size = 0;
        }

        void put(int step) {
            if (size < MOST_BYTES) {
                steps[size] = step;
                size++;
            }
        }

        void close(int about) {
            if (rules < MOST_RULES) {
                abouts[rules] = about;
                rules++;
                starts[rules] = size;
            }
        }

        boolean permits(int about, int skip) {
            for (int rule = 0; rule < rules; rule++) {
                if (abouts[rule] == about && rule != skip && !grants(rule)) {
                    return false;
                }
            }
            return true;
        }

        private boolean grants(int rule) {
            int top = 0;
            for (int i = starts[rule]; i < starts[rule + 1]; i++) {
                int step = steps[i];
                if (step > NOT) {
                    if (top >= PILE) {
                        return false;
                    }
                    pile[top] = step >= 0 ? step : facts[NO_FACT - step];
                    top++;
                    continue;
                }
                if (top < (step == NOT ? 1 : 2)) {
                    return false;
                }
                if (step == NOT) {
                    pile[top - 1] = 1 - pile[top - 1];
                    continue;
                }
                top--;
                int a = pile[top - 1];
                int b = pile[top];
                switch (step) {
                    case OR: pile[top - 1] = a | b; break;
                    case AND: pile[top - 1] = a & b; break;
                    case LESS: pile[top - 1] = a < b ? 1 : 0; break;
                    case MORE: pile[top - 1] = a > b ? 1 : 0; break;
                    case SAME: pile[top - 1] = a == b ? 1 : 0; break;
                    case PLUS: pile[top - 1] = a + b; break;
                    case MINUS: pile[top - 1] = a - b; break;
                    case TIMES: pile[top - 1] = a * b; break;
                    default: pile[top - 1] = b == 0 ? 0 : a / b; break;
                }
            }
            return top > 0 && pile[0] != 0;
        }
    }

    /** Reads a law from the text. */
    private static final class LawReader {
        private static final int BY_OR = 0;
        private static final int BY_AND = 1;
        private static final int BY_SUM = 2;
        private static final int BY_PRODUCT = 3;
        private static final int NO_STEP = 0;

        private final Text text;
        private Law law;

        LawReader(Text text, Law law) {
            this.text = text;
            this.law = law;
        }

        boolean read(Law into, int length) {
            law = into;
            law.forget();
            text.open(length);
            for (int rule = 0; rule <= MOST_RULES && text.sort != Text.CLOSE; rule++) {
                if (!readRule(rule < MOST_RULES)) {
                    return false;
                }
            }
            return true;
        }

        private boolean readRule(boolean room) {
            boolean rests = text.isWord("rest");
            if (!rests && !text.isWord("go")) {
                return text.fail(FAULT_STANDS);
            }
            if (!room) {
                return text.fail(FAULT_MANY);
            }
            text.advance();
            if (!text.isWord("if")) {
                return text.fail(FAULT_STANDS);
            }
            text.advance();
            if (!joined(BY_OR, 0) || !text.pass(';')) {
                return false;
            }
            law.close(rests ? Law.RESTING : Law.GOING_ON);
            return true;
        }

        /* Parts of a level one after the other, joined from the left. */
        private boolean joined(int level, int open) {
            if (!part(level, open)) {
                return false;
            }
            int step = joint(level);
            for (int i = 0; i < MOST_BYTES && step != NO_STEP; i++) {
                text.advance();
                if (!part(level, open)) {
                    return false;
                }
                law.put(step);
                step = joint(level);
            }
            return true;
        }

        private boolean part(int level, int open) {
            switch (level) {
                case BY_OR: return joined(BY_AND, open);
                case BY_AND: return basic(open);
                case BY_SUM: return joined(BY_PRODUCT, open);
                default: return unit(open);
            }
        }

        private int joint(int level) {
            switch (level) {
                case BY_OR: return text.isWord("or") ? Law.OR : NO_STEP;
                case BY_AND: return text.isWord("and") ? Law.AND : NO_STEP;
                case BY_SUM: return text.isSign('+') ? Law.PLUS : text.isSign('-') ? Law.MINUS : NO_STEP;
                default: return text.isSign('*') ? Law.TIMES : text.isSign('/') ? Law.OVER : NO_STEP;
            }
        }

        private boolean basic(int open) {
            if (text.isWord("not")) {
                if (!opened(open) || !basic(open + 1)) {
                    return false;
                }
                law.put(Law.NOT);
                return true;
            }
            if (text.isSign('[')) {
                return opened(open) && joined(BY_OR, open + 1) && text.pass(']');
            }
            return compared(open);
        }

        private boolean opened(int open) {
            if (open >= MOST_OPEN) {
                return text.fail(FAULT_MANY);
            }
            text.advance();
            return true;
        }

        private boolean compared(int open) {
            if (!joined(BY_SUM, open)) {
                return false;
            }
            int step = text.isSign('<') ? Law.LESS
                    : text.isSign('>') ? Law.MORE
                    : text.isSign('=') ? Law.SAME : NO_STEP;
            if (step == NO_STEP) {
                return text.fail(FAULT_STANDS);
            }
            text.advance();
            if (!joined(BY_SUM, open)) {
                return false;
            }
            law.put(step);
            return true;
        }

        private boolean unit(int open) {
            if (text.isSign('(')) {
                return opened(open) && joined(BY_SUM, open + 1) && text.pass(')');
            }
            if (text.sort == Text.NUMBER) {
                if (!text.numeral(0, 9999)) {
                    return false;
                }
                law.put(text.number);
            } else {
                int which = fact();
                if (which == NONE) {
                    return text.fail(FAULT_STANDS);
                }
                law.put(Law.NO_FACT - which);
            }
            text.advance();
            return true;
        }

        private int fact() {
            if (text.isWord("hour")) {
                return Law.HOUR;
            }
            if (text.isWord("left")) {
                return Law.LEFT;
            }
            if (text.isWord("stores")) {
                return Law.STORES;
            }
            if (text.isWord("hut")) {
                return Law.AT_HUT;
            }
            if (text.isWord("leader")) {
                return Law.LEADER;
            }
            if (text.isWord("place")) {
                return Law.PLACE;
            }
            if (text.isWord("to")) {
                return Law.TO;
            }
            return text.isWord("snow") ? Law.SNOW : NONE;
        }
    }

    /** All that an image keeps: kinds, plan, turns, rows and the latest journey. */
    private static final class Party {
        final int[] kinds = new int[MOST_PERSONS];
        final int[] plan = new int[DAY];
        final int[] turns = new int[DAY];
        final int[] rows = new int[DAY];
        final int[] wherePlaces = new int[DAY + 1];
        final int[] whereStores = new int[DAY + 1];
        final int[] whichMoves = new int[DAY + 1];
        int days = 1;
        int rowCount = 0;
        /* How many hours the journey was; NONE: there is none. */
        int gone = NONE;
        int fate = GOING;

        Party() {
            Arrays.fill(turns, NONE);
        }

        void forget() {
            Arrays.fill(kinds, AHEAD);
            Arrays.fill(plan, 0);
            Arrays.fill(turns, NONE);
            days = 1;
            rowCount = 0;
            gone = NONE;
            fate = GOING;
        }

        void copy(Party from) {
            System.arraycopy(from.kinds, 0, kinds, 0, MOST_PERSONS);
            System.arraycopy(from.plan, 0, plan, 0, DAY);
            System.arraycopy(from.turns, 0, turns, 0, DAY);
            System.arraycopy(from.rows, 0, rows, 0, DAY);
            System.arraycopy(from.wherePlaces, 0, wherePlaces, 0, DAY + 1);
            System.arraycopy(from.whereStores, 0, whereStores, 0, DAY + 1);
            System.arraycopy(from.whichMoves, 0, whichMoves, 0, DAY + 1);
            days = from.days;
            rowCount = from.rowCount;
            gone = from.gone;
            fate = from.fate;
        }

        int leaderOf(int hour, int persons) {
            if (turns[hour] != NONE) {
                return turns[hour];
            }
            return days < 1 || persons < 1 ? NONE : hour / days % persons;
        }

        int toldTurns() {
            int sum = 0;
            for (int hour = 0; hour < DAY; hour++) {
                sum += turns[hour] == NONE ? 0 : 1;
            }
            return sum;
        }
    }

    /** How it is, or how it would be: who leads each hour, in which kind, with which store and law. */
    private static final class Scene {
        final int[] leads = new int[DAY];
        final int[] kinds = new int[MOST_PERSONS];
        final int[] plan = new int[DAY];
        final int[] round = new int[MOST_PERSONS];
        int store = 0;
        int skip = NONE;
        int pactColumns = 0;

        void load(Land land, Party party) {
            System.arraycopy(party.kinds, 0, kinds, 0, MOST_PERSONS);
            System.arraycopy(party.plan, 0, plan, 0, DAY);
            store = land.store;
            skip = NONE;
            pactColumns = 0;
            for (int i = 0; i < MOST_PERSONS; i++) {
                round[i] = i;
            }
            lead(land, party, party.days);
        }

        /* One who leads all hours and looks ahead comes to his best. */
        void loadAlone(Land land, Party party, int person) {
            load(land, party);
            Arrays.fill(leads, person);
            kinds[person] = AHEAD;
        }

        void lead(Land land, Party party, int days) {
            for (int hour = 0; hour < DAY; hour++) {
                int told = party.turns[hour];
                leads[hour] = told != NONE || days < 1 || land.persons < 1
                        ? told : round[hour / days % land.persons];
            }
        }

        int roundDigits(int persons) {
            int digits = 0;
            for (int i = 0; i < persons; i++) {
                digits = digits * 10 + round[i];
            }
            return digits;
        }

        /* The round that comes next, person by person; false: this was the last one. */
        boolean nextRound(int persons) {
            int low = persons - 2;
            while (low >= 0 && round[low] > round[low + 1]) {
                low--;
            }
            if (low < 0) {
                return false;
            }
            int high = persons - 1;
            while (high > low && round[high] < round[low]) {
                high--;
            }
            exchange(low, high);
            for (int i = low + 1, j = persons - 1; i < j; i++, j--) {
                exchange(i, j);
            }
            return true;
        }

        private void exchange(int i, int j) {
            int kept = round[i];
            round[i] = round[j];
            round[j] = kept;
        }
    }

    /** What comes of each state; a table that is not whole keeps two hours only, this one and the next. */
    private static final class Table {
        final boolean isWhole;
        final long[] cells;
        final int[] moves;

        Table(boolean isWhole) {
            int spots = (isWhole ? DAY + 1 : 2) * LAYER;
            this.isWhole = isWhole;
            this.cells = new long[spots * COLUMNS];
            this.moves = new int[spots];
        }

        int spot(int place, int hour, int stores) {
            int layer = isWhole ? hour : hour & 1;
            return layer * LAYER + place * LEVELS + stores;
        }

        /* An hour as in another table: where all that follows is the same, it is not worked again. */
        void keep(Table from, int hour) {
            int there = from.spot(0, hour, 0) * COLUMNS;
            System.arraycopy(from.cells, there, cells, spot(0, hour, 0) * COLUMNS, LAYER * COLUMNS);
        }
    }

    /** Works a scene's table from the last hour back. */
    private static final class Solver {
        Land land;
        Law law;
        private Scene scene;
        Table table;
        /* Lawful moves of each leader in each state by the whole law; 0: not worked yet. */
        private final int[] masks = new int[MOST_PERSONS * DAY * LAYER];
        /* By hour and place: the stores with which they may be there, as bits. */
        private final int[] reach = new int[(DAY + 1) * MOST_PLACES];
        /* The store by which the reach was marked; NONE: it was not yet. */
        private int reachStore = NONE;
        private final int[] votes = new int[MOST_WAYS + 1];
        /* The state that is looked at, and into how many shares chance cuts its hour. */
        private int herePlace = 0;
        private int hereHour = 0;
        private int hereStores = 0;
        private int shares = 1;
        /* Where the move that is aimed at leads to: staying, or at the other place. */
        int staySpot = 0;
        int goSpot = 0;
        int stayShare = 0;
        int goShare = 0;

        Solver(Land land, Law law, Scene scene, Table table) {
            this.land = land;
            this.law = law;
            this.scene = scene;
            this.table = table;
        }

        void forgetWork() {
            Arrays.fill(masks, 0);
            reachStore = NONE;
        }

        void look(Scene newScene, Table newTable) {
            scene = newScene;
            table = newTable;
        }

        /* Lawful moves in a state that has not ended, as bits, by the law less a rule (NONE: all of it). */
        int lawful(int leader, int place, int hour, int stores, int skip) {
            int index = (leader * DAY + hour) * LAYER + place * LEVELS + stores;
            if (skip == NONE && masks[index] != 0) {
                return masks[index];
            }
            int[] facts = law.facts;
            facts[Law.HOUR] = hour;
            facts[Law.LEFT] = land.hours - hour;
            facts[Law.STORES] = stores;
            facts[Law.AT_HUT] = land.sorts[place] == HUT ? 1 : 0;
            facts[Law.LEADER] = leader;
            facts[Law.PLACE] = place;
            facts[Law.TO] = place;
            facts[Law.SNOW] = 0;
            int mask = law.permits(Law.RESTING, skip) ? 1 : 0;
            for (int way = 0; way < land.ways; way++) {
                int to = land.across[place * MOST_WAYS + way];
                if (to == NONE) {
                    continue;
                }
                facts[Law.TO] = to;
                facts[Law.SNOW] = land.snowOf(way, hour);
                if (law.permits(Law.GOING_ON, skip)) {
                    mask |= 2 << way;
                }
            }
            mask = mask == 0 ? 1 : mask;
            if (skip == NONE) {
                masks[index] = mask;
            }
            return mask;
        }

        /* Works the hours from the last one on back; those behind it stand in the table already. */
        void sweep(Scene newScene, Table newTable, int last) {
            look(newScene, newTable);
            if (!table.isWhole && reachStore != scene.store) {
                markReach();
                reachStore = scene.store;
            }
            for (int hour = last; hour >= 0; hour--) {
                for (int place = 0; place < land.places; place++) {
                    int bits = table.isWhole ? ALL_LEVELS : reach[hour * MOST_PLACES + place];
                    for (int stores = 0; stores <= scene.store; stores++) {
                        if ((bits >> stores & 1) != 0) {
                            fillState(place, hour, stores);
                        }
                    }
                }
            }
        }

        /* What only asks for the beginning need not look at states that can't come, whatever the law. */
        private void markReach() {
            Arrays.fill(reach, 0);
            reach[land.start] = 1 << scene.store;
            for (int hour = 0; hour < land.hours; hour++) {
                for (int place = 0; place < land.places; place++) {
                    int stores = land.sorts[place] == END ? 0 : reach[hour * MOST_PLACES + place] & ~1;
                    if (stores == 0) {
                        continue;
                    }
                    markAfter(place, hour + 1, stores);
                    for (int way = 0; way < land.ways; way++) {
                        int to = land.across[place * MOST_WAYS + way];
                        if (to != NONE) {
                            markAfter(to, hour + 1, stores);
                        }
                    }
                }
            }
        }

        private void markAfter(int place, int hour, int stores) {
            reach[hour * MOST_PLACES + place] |= land.sorts[place] == HUT ? 1 << scene.store : stores >> 1;
        }

        private void fillState(int place, int hour, int stores) {
            int spot = table.spot(place, hour, stores);
            int fate = land.fateOf(place, hour, stores);
            if (fate != GOING) {
                fillEnded(spot, place, hour, fate);
                return;
            }
            stand(place, hour, stores);
            for (int person = 0; person < land.persons; person++) {
                int kind = scene.kinds[person];
                if (kind == OWN || kind == BLIND) {
                    fillDream(spot, person);
                }
            }
            int leader = scene.leads[hour];
            int mask = lawful(leader, place, hour, stores, scene.skip);
            int move = scene.kinds[leader] == VOTED ? mostVoted(mask) : picked(leader, mask);
            table.moves[spot] = move;
            aim(move);
            long[] cells = table.cells;
            int stay = staySpot * COLUMNS;
            int go = goSpot * COLUMNS;
            for (int column = 0; column < WORTH + land.persons; column++) {
                cells[spot * COLUMNS + column] = stayShare * cells[stay + column] + goShare * cells[go + column];
            }
        }

        private void fillEnded(int spot, int place, int hour, int fate) {
            long scale = land.scales[hour];
            int cell = spot * COLUMNS;
            table.moves[spot] = NONE;
            table.cells[cell + CHANCE_THERE] = fate == THERE ? scale : 0;
            table.cells[cell + CHANCE_LOST] = fate == LOST ? scale : 0;
            for (int person = 0; person < land.persons; person++) {
                long worth = scale * land.worthTo(person, place, hour, fate);
                table.cells[cell + WORTH + person] = worth;
                table.cells[cell + DREAM + person] = worth;
            }
        }

        /* What one dreams of: that he leads alone (OWN), or that others do their worst to him (BLIND). */
        private void fillDream(int spot, int person) {
            int leader = scene.kinds[person] == OWN ? person : scene.leads[hereHour];
            int sign = leader == person ? 1 : -1;
            int column = DREAM + person;
            int mask = lawful(leader, herePlace, hereHour, hereStores, scene.skip);
            aim(bestMove(mask, 1 << column, sign));
            table.cells[spot * COLUMNS + column] = expected(1 << column);
        }

        private int picked(int leader, int mask) {
            int first = lowest(mask);
            int planned = scene.plan[hereHour];
            switch (scene.kinds[leader]) {
                case OWN:
                case BLIND: return bestMove(mask, 1 << DREAM + leader, 1);
                case KIND: return bestMove(mask, (1 << land.persons) - 1 << WORTH, 1);
                case PACT: return bestMove(mask, scene.pactColumns, 1);
                case SPEND: return first;
                case PLANNED: return (mask >> planned & 1) != 0 ? planned : first;
                default: return bestMove(mask, 1 << WORTH + leader, 1);
            }
        }

        private int mostVoted(int mask) {
            Arrays.fill(votes, 0);
            for (int person = 0; person < land.persons; person++) {
                votes[bestMove(mask, 1 << WORTH + person, 1)]++;
            }
            int best = 0;
            for (int move = 1; move <= land.ways; move++) {
                if (votes[move] > votes[best]) {
                    best = move;
                }
            }
            return best;
        }

        /* The number of the lowest bit that is set. */
        private static int lowest(int bits) {
            return Integer.bitCount((bits & -bits) - 1);
        }

        /* Of moves the first of the greatest sum of columns (sign -1: of the least). */
        int bestMove(int mask, int columns, int sign) {
            int moves = Integer.bitCount(mask);
            int best = moves == 0 ? 0 : lowest(mask);
            int left = mask;
            long most = 0;
            for (int i = 0; i < moves && moves > 1; i++) {
                int move = lowest(left);
                left &= left - 1;
                aim(move);
                long worth = sign * expected(columns);
                if (i == 0 || worth > most) {
                    best = move;
                    most = worth;
                }
            }
            return best;
        }

        void stand(int place, int hour, int stores) {
            herePlace = place;
            hereHour = hour;
            hereStores = stores;
            shares = land.shares(hour);
            staySpot = table.spot(place, hour + 1, land.storesAfter(place, stores, scene.store));
        }

        void aim(int move) {
            goSpot = staySpot;
            stayShare = shares;
            goShare = 0;
            int to = move < 1 ? NONE : land.across[herePlace * MOST_WAYS + move - 1];
            if (to != NONE) {
                goSpot = table.spot(to, hereHour + 1, land.storesAfter(to, hereStores, scene.store));
                stayShare = land.snowOf(move - 1, hereHour);
                goShare = shares - stayShare;
            }
        }

        /* What the move that was aimed at is worth, by chances, in these columns together. */
        long expected(int columns) {
            long sum = 0;
            int first = Integer.bitCount((columns & -columns) - 1);
            for (int column = first; column < COLUMNS && columns >> column != 0; column++) {
                if ((columns >> column & 1) != 0) {
                    sum += stayShare * table.cells[staySpot * COLUMNS + column]
                            + goShare * table.cells[goSpot * COLUMNS + column];
                }
            }
            return sum;
        }
    }

    /** Goes through the hours from the first on: journeys, rows, where they can come, by what chance. */
    private static final class Walker {
        private final Solver solver;
        /* By hour and place: the stores with which they can be there, as bits. */
        private final int[] seen = new int[(DAY + 1) * MOST_PLACES];
        private final long[] flow = new long[(DAY + 1) * LAYER];
        final long[] arrivals = new long[(DAY + 1) * FATES];
        final long[] stays = new long[MOST_PLACES];

        Walker(Solver solver) {
            this.solver = solver;
        }

        int lawfulNow(Party party, int place, int hour, int stores) {
            if (solver.land.fateOf(place, hour, stores) != GOING) {
                return 0;
            }
            int leader = party.leaderOf(hour, solver.land.persons);
            return solver.lawful(leader, place, hour, stores, NONE);
        }

        /* Where a move leads when no way is closed. */
        private int placeAfter(int place, int move) {
            int to = move < 1 ? NONE : solver.land.across[place * MOST_WAYS + move - 1];
            return to == NONE ? place : to;
        }

        boolean isTrap(Party party, int place, int hour, int stores) {
            return Integer.bitCount(lawfulNow(party, place, hour, stores)) == 1;
        }

        int forcing(Party party, int place, int hour, int stores) {
            Land land = solver.land;
            int mask = lawfulNow(party, place, hour, stores);
            for (int move = 0; move <= land.ways; move++) {
                if ((mask >> move & 1) != 0) {
                    int to = placeAfter(place, move);
                    if (isTrap(party, to, hour + 1, land.storesAfter(to, stores, land.store))) {
                        return move;
                    }
                }
            }
            return NONE;
        }

        int journey(Party party, Table table, int seed) {
            Land land = solver.land;
            int place = land.start;
            int stores = land.store;
            int drawn = seed;
            for (int hour = 0; hour <= land.hours; hour++) {
                party.wherePlaces[hour] = place;
                party.whereStores[hour] = stores;
                party.gone = hour;
                party.fate = land.fateOf(place, hour, stores);
                if (party.fate != GOING) {
                    break;
                }
                int move = table.moves[table.spot(place, hour, stores)];
                party.whichMoves[hour] = move;
                int closing = move < 1 ? 0 : land.snowOf(move - 1, hour);
                boolean open = true;
                if (closing > 0) {
                    drawn = drawn * 1103515245 + 12345;
                    open = (drawn >>> 16 & 15) >= closing;
                }
                place = open ? placeAfter(place, move) : place;
                stores = land.storesAfter(place, stores, land.store);
            }
            return party.gone;
        }

        int judgeRows(Party party) {
            Land land = solver.land;
            int place = land.start;
            int stores = land.store;
            for (int i = 0; i < party.rowCount; i++) {
                int mask = i > land.hours ? 0 : lawfulNow(party, place, i, stores);
                if (mask == 0) {
                    return 10 * i + 2;
                }
                if ((mask >> party.rows[i] & 1) == 0) {
                    return 10 * i + 1;
                }
                place = placeAfter(place, party.rows[i]);
                stores = land.storesAfter(place, stores, land.store);
            }
            return NONE;
        }

        /* The solver's table tells what comes to the person alone. */
        int proveRows(Party party, int person) {
            Land land = solver.land;
            int column = 1 << WORTH + person;
            int place = land.start;
            int stores = land.store;
            for (int hour = 0; hour < land.hours && land.fateOf(place, hour, stores) == GOING; hour++) {
                int mask = solver.lawful(person, place, hour, stores, NONE);
                int told = hour < party.rowCount ? party.rows[hour] : 0;
                int move = (mask >> told & 1) != 0 ? told : 0;
                solver.stand(place, hour, stores);
                solver.aim(solver.bestMove(mask, column, 1));
                long most = solver.expected(column);
                solver.aim(move);
                if (most > solver.expected(column)) {
                    return hour;
                }
                place = placeAfter(place, move);
                stores = land.storesAfter(place, stores, land.store);
            }
            return NONE;
        }

        private void see(int place, int hour, int stores) {
            seen[hour * MOST_PLACES + place] |= 1 << stores;
        }

        /* Marks where all that is seen at an hour leads; a way that may be closed leads both ways, if asked. */
        private void spread(Party party, int hour, boolean closedToo) {
            Land land = solver.land;
            for (int place = 0; place < land.places; place++) {
                int bits = seen[hour * MOST_PLACES + place];
                for (int stores = 0; stores <= land.store; stores++) {
                    int mask = (bits >> stores & 1) == 0 ? 0 : lawfulNow(party, place, hour, stores);
                    for (int move = 0; move <= land.ways && mask >> move != 0; move++) {
                        if ((mask >> move & 1) == 0) {
                            continue;
                        }
                        int closing = move < 1 ? 16 : land.snowOf(move - 1, hour);
                        if (closing == 16 || closedToo && closing > 0) {
                            see(place, hour + 1, land.storesAfter(place, stores, land.store));
                        }
                        if (closing < 16) {
                            int to = placeAfter(place, move);
                            see(to, hour + 1, land.storesAfter(to, stores, land.store));
                        }
                    }
                }
            }
        }

        int fewestHours(Party party, int place, int hour, int stores) {
            Land land = solver.land;
            Arrays.fill(seen, 0);
            see(place, hour, stores);
            for (int now = hour; now <= land.hours; now++) {
                for (int end = 0; end < land.places; end++) {
                    if (land.sorts[end] == END && seen[now * MOST_PLACES + end] != 0) {
                        return now - hour;
                    }
                }
                if (now < land.hours) {
                    spread(party, now, false);
                }
            }
            return NONE;
        }

        int oneMind(Party party) {
            Land land = solver.land;
            Arrays.fill(seen, 0);
            see(land.start, 0, land.store);
            int from = 0;
            for (int hour = 0; hour < land.hours; hour++) {
                if (!agreed(party, hour)) {
                    from = hour + 1;
                }
                spread(party, hour, true);
            }
            return from;
        }

        private boolean agreed(Party party, int hour) {
            Land land = solver.land;
            for (int place = 0; place < land.places; place++) {
                int bits = seen[hour * MOST_PLACES + place];
                for (int stores = 0; stores <= land.store; stores++) {
                    int mask = (bits >> stores & 1) == 0 ? 0 : lawfulNow(party, place, hour, stores);
                    if (mask == 0) {
                        continue;
                    }
                    solver.stand(place, hour, stores);
                    int first = solver.bestMove(mask, 1 << WORTH, 1);
                    for (int person = 1; person < land.persons; person++) {
                        if (solver.bestMove(mask, 1 << WORTH + person, 1) != first) {
                            return false;
                        }
                    }
                }
            }
            return true;
        }

        /* Lets all chance flow from the beginning by the moves of the solver's whole table. */
        void flowAll() {
            Land land = solver.land;
            Table table = solver.table;
            Arrays.fill(flow, 0);
            Arrays.fill(arrivals, 0);
            Arrays.fill(stays, 0);
            flow[table.spot(land.start, 0, land.store)] = land.scales[0];
            for (int hour = 0; hour <= land.hours; hour++) {
                for (int place = 0; place < land.places; place++) {
                    for (int stores = 0; stores <= land.store; stores++) {
                        if (flow[table.spot(place, hour, stores)] != 0) {
                            flowOn(place, hour, stores);
                        }
                    }
                }
            }
        }

        private void flowOn(int place, int hour, int stores) {
            int spot = solver.table.spot(place, hour, stores);
            long amount = flow[spot];
            stays[place] += amount;
            int fate = solver.land.fateOf(place, hour, stores);
            if (fate != GOING) {
                arrivals[hour * FATES + fate] += amount;
                return;
            }
            solver.stand(place, hour, stores);
            solver.aim(solver.table.moves[spot]);
            long share = solver.land.shares(hour) == 16 ? amount >> 4 : amount;
            flow[solver.staySpot] += share * solver.stayShare;
            flow[solver.goSpot] += share * solver.goShare;
        }
    }
}
