/** Promises 23 to 34 at their edges: rows, hours given, rounds, traps, whether they get there. One test a sentence. */
public final class GlassLeadersEdgesOfHours {
    private static final String GOING = "rest if 1=2;";
    /** Two huts, the other one wanted by two, each as much; 24 hours, by turns. */
    private static final String SHARED =
            "place hut;place hut;way 0 1;person 0;person 0;wants 0 1 5;wants 1 1 5;hours 24;";
    private static final String SHARED_BY_THREE = SHARED + "person 0;wants 2 1 5;";

    private static GlassLeaders withRows(GlassLeaders g, int... moves) {
        for (int move : moves) {
            g.row(move);
        }
        return g;
    }

    private static GlassLeaders withRows(String land, int... moves) {
        return withRows(Edge.of(land), moves);
    }

    private static GlassLeaders resting(int rows, String land) {
        GlassLeaders g = Edge.of(land);
        for (int i = 0; i < rows; i++) {
            g.row(0);
        }
        return g;
    }

    // ---------------------------------------------------------------------------- 23: row

    static void promise23_noSuchMove() {
        Edge.refusesAll(Edge.ARGUMENT, Edge::full, (g, move) -> g.row(move), -1, 4);
        Edge.refusesAll(Edge.ARGUMENT, () -> Edge.of("place;place;person 0;" + Edge.times(24, "way 0 1;")),
                (g, move) -> g.row(move), -1, 25);
        Edge.due("the last way of 24", Edge.of("place;place;person 0;" + Edge.times(24, "way 0 1;")).row(24), 1);
        Edge.due("the last way of SMALL", Edge.of(Edge.SMALL).row(3), 1);
    }

    static void promise23_withoutALandThereIsRestAlone() {
        Edge.due("rest", new GlassLeaders().row(0), 1);
        Edge.refusesAll(Edge.ARGUMENT, Edge::bare, (g, move) -> g.row(move), -1, 1);
    }

    static void promise23_twentyFourAndNoMore() {
        GlassLeaders g = Edge.of(Edge.SMALL);
        for (int i = 1; i <= 24; i++) {
            Edge.due("row " + i, g.row(i % 4), i);
        }
        Edge.due("a 25th", g.row(0), -1);
        Edge.due("another one", g.row(3), -1);
        Edge.due("how many there are", g.count(0), 24);
        Edge.due("it is no refusal", g.status(2), 0);
    }

    static void promise23_aRowTooManyDoesNothing() {
        GlassLeaders g = resting(24, Edge.SMALL);
        String due = Edge.everything(resting(24, Edge.SMALL));
        g.row(1);
        Edge.due("all", Edge.everything(g), due);
    }

    static void promise23_noSuchMoveIsRefusedThoughThereAreTwentyFour() {
        Edge.refusesAll(Edge.ARGUMENT, () -> resting(24, Edge.SMALL), (g, move) -> g.row(move), -1, 4);
    }

    static void promise23_aMoveThatIsNotLawfulMayBeTold() {
        Edge.due("row", Edge.of(Edge.SMALL, "go if 1=2;").row(3), 1);
    }

    // ---------------------------------------------------------------------------- 24: clear

    static void promise24_howManyWent() {
        GlassLeaders g = resting(24, Edge.SMALL);
        Edge.due("all", g.clear(), 24);
        Edge.due("none", g.clear(), 0);
        Edge.due("without a land", new GlassLeaders().clear(), 0);
    }

    static void promise24_theFirstRowComesAgain() {
        GlassLeaders g = resting(24, Edge.SMALL);
        g.clear();
        Edge.due("rows", g.count(0), 0);
        Edge.due("judged", g.judge(), -1);
        Edge.due("a row", g.row(3), 1);
        Edge.due("judged by it", g.judge(), 1);
    }

    // ---------------------------------------------------------------------------- 25: judge

    static void promise25_noLand() {
        Edge.needsLand(g -> g.judge());
    }

    static void promise25_noneWithoutRows() {
        Edge.due("judged", Edge.of(Edge.SMALL).judge(), -1);
        Edge.due("though it has ended", Edge.of("place end;person 0;").judge(), -1);
    }

    static void promise25_theFirstRowIsNumberZero() {
        Edge.due("not lawful", withRows(Edge.SMALL, 3).judge(), 1);
        Edge.due("ended", withRows("place end;person 0;", 0).judge(), 2);
    }

    static void promise25_theLastRowIsNumberTwentyThree() {
        String hut = "place hut;place;place;person 0;way 0 1;way 1 2;hours 24;";
        Edge.due("all lawful", resting(24, hut).judge(), -1);
        Edge.due("not lawful", withRows(resting(23, hut), 2).judge(), 231);
        Edge.due("ended", resting(24, hut + "hours 23;").judge(), 232);
        Edge.due("lawful", withRows(resting(23, hut), 1).judge(), -1);
    }

    static void promise25_asManyRowsAsHours() {
        Edge.due("as many", resting(3, "place;person 0;hours 3;").judge(), -1);
        Edge.due("one more", resting(4, "place;person 0;hours 3;").judge(), 32);
        Edge.due("many more", resting(24, "place;person 0;hours 1;").judge(), 12);
    }

    static void promise25_whenStoresAreGoneItHasEnded() {
        Edge.due("as many as stores", resting(3, "place;person 0;store 3;").judge(), -1);
        Edge.due("one more", resting(4, "place;person 0;store 3;").judge(), 32);
        Edge.due("at a hut", resting(4, "place hut;person 0;store 1;").judge(), -1);
        Edge.due("by way of a hut", withRows("place;place hut;way 0 1;person 0;store 2;", 0, 1, 1, 0).judge(), -1);
    }

    static void promise25_whereItHasEndedNoMoveIsAsked() {
        Edge.due("a way elsewhere", withRows(Edge.SMALL, 1, 2).judge(), 12);
        Edge.due("a way there", withRows(Edge.SMALL, 1, 1).judge(), 12);
    }

    static void promise25_theFirstOfMore() {
        Edge.due("not lawful, then ended", withRows(Edge.SMALL, 2, 1, 3, 0).judge(), 11);
        Edge.due("ended, then not lawful", withRows(Edge.SMALL, 2, 3, 0, 2).judge(), 22);
    }

    static void promise25_forcedRestIsLawful() {
        GlassLeaders g = Edge.of(Edge.SMALL, "go if 1=2;rest if 1=2;");
        Edge.due("rest", withRows(g, 0, 0, 0).judge(), -1);
        g.clear();
        Edge.due("going", withRows(g, 0, 1).judge(), 11);
        GlassLeaders h = Edge.of(Edge.SMALL, GOING);
        Edge.due("rest that is not forced", withRows(h, 0).judge(), 1);
    }

    static void promise25_asIfNoneWereClosed() {
        Edge.due("closed for sure", withRows(Edge.SMALL + "snow 0 0 0 16;", 1, 0).judge(), 12);
        Edge.due("by chance", withRows(Edge.SMALL + "snow 1 0 0 15;", 2, 3).judge(), -1);
    }

    static void promise25_lawfulToWhoLeads() {
        GlassLeaders g = withRows(Edge.of(Edge.SMALL, "go if leader=1;"), 0, 1);
        Edge.due("1 goes in his hour", g.judge(), -1);
        g.turn(1, 0);
        Edge.due("0 may not", g.judge(), 11);
        g.turn(1, -1);
        g.days(2);
        Edge.due("nor by longer turns", g.judge(), 11);
    }

    // ---------------------------------------------------------------------------- 26: proof

    static void promise26_noSuchPerson() {
        Edge.refusesAll(Edge.INDEX, Edge::full, (g, person) -> g.proof(person), -1, 2);
    }

    static void promise26_noLandFirstOfAll() {
        Edge.needsLand(g -> g.proof(0), g -> g.proof(-1), g -> g.proof(5));
    }

    static void promise26_noneIfItHasEndedAtTheBeginning() {
        Edge.due("at an end", withRows("place end;person 0;", 0).proof(0), -1);
    }

    static void promise26_noneIfEachRowIsAsGoodAsAny() {
        Edge.due("the best", withRows(Edge.SMALL, 1).proof(0), -1);
        Edge.due("no worse than another", withRows(Edge.SMALL, 0, 2).proof(1), -1);
        Edge.due("who wants nothing", Edge.of("place;place;way 0 1;person 0;").proof(0), -1);
    }

    static void promise26_theFirstHourAndTheLast() {
        GlassLeaders g = Edge.of("place hut;place;way 0 1;person 0;wants 0 1 5;hours 24;");
        Edge.due("resting till it is too late", g.proof(0), 23);
        for (int i = 0; i < 23; i++) {
            g.row(0);
        }
        g.row(1);
        Edge.due("going in the last hour", g.proof(0), -1);
        Edge.due("in the first hour, for each costs", withRows(Edge.SMALL, 0).proof(0), 0);
    }

    static void promise26_heRestsBehindTheLastRow() {
        String line = "place;place;place end;way 0 1;way 1 2;person 0;wants 0 2 9;hours 2;";
        Edge.due("no row", Edge.of(line).proof(0), 0);
        Edge.due("one row", withRows(line, 1).proof(0), 1);
        Edge.due("two rows", withRows(line, 1, 2).proof(0), -1);
    }

    static void promise26_heRestsWhereARowIsNotLawfulToHim() {
        String line = "place;place;place end;way 0 1;way 1 2;person 0;person 0;wants 0 2 9;wants 1 2 9;hours 3;";
        Edge.due("a way elsewhere: an hour is left for it", withRows(line, 2, 1, 2).proof(0), -1);
        Edge.due("two hours are not", withRows(line, 2, 2, 2).proof(0), 1);
        GlassLeaders g = withRows(Edge.of(line, "go if leader=1 or hour>0;"), 1, 1, 2);
        Edge.due("not lawful to him, though to the other one", g.proof(0), -1);
        Edge.due("lawful to the other one, who goes back", g.proof(1), 1);
    }

    static void promise26_byTheLawAsLeaderWhoeverLeads() {
        GlassLeaders g = withRows(Edge.of(Edge.SMALL, "go if leader=1;"), 0, 0, 0);
        Edge.due("who may not go", g.proof(0), -1);
        Edge.due("who may, and would", g.proof(1), 2);
        g.turn(0, 1);
        g.turn(1, 1);
        g.turn(2, 1);
        Edge.due("whoever is told", g.proof(0), -1);
    }

    static void promise26_forcedRestIsAsGoodAsAny() {
        GlassLeaders g = withRows(Edge.of(Edge.SMALL, "go if hour=1;rest if 1=2;"), 1, 1);
        Edge.due("forced in hour 0, gone in hour 1", g.proof(0), -1);
        g.clear();
        Edge.due("resting in hour 1", g.proof(0), 1);
    }

    static void promise26_onTheWayNoneIsClosed() {
        String line = "place;place;place end;way 0 1;way 1 2;person 0;wants 0 2 9;hours 3;snow 0 0 0 16;";
        Edge.due("closed for sure, but not on the way", withRows(line, 1, 2).proof(0), -1);
        Edge.due("worth by chances: resting is as good", withRows(line, 0, 1, 2).proof(0), -1);
        String chance = "place;place end;way 0 1;person 0;wants 0 1 9;hours 2;snow 0 0 0 8;";
        Edge.due("resting is as good, where an hour is left", withRows(chance, 0, 1).proof(0), -1);
        Edge.due("not in the last hour", withRows(chance + "hours 1;", 0).proof(0), 0);
    }

    static void promise26_storesAreGoneOnTheWay() {
        String road = "place;place end;way 0 1;person 0;wants 0 1 9;lost 9;hours 5;store ";
        Edge.due("two stores: he must go in hour 1", Edge.of(road + "2;").proof(0), 1);
        Edge.due("three stores", Edge.of(road + "3;").proof(0), 2);
        Edge.due("gone in time", withRows(road + "3;", 0, 0, 1).proof(0), -1);
    }

    static void promise26_questionsChangeNothing() {
        GlassLeaders asked = Edge.of(Edge.DARE);
        Edge.due("value before", asked.value(0, 0, 0, 12), 3);
        Edge.due("proof", asked.proof(0), 0);
        Edge.due("value behind", asked.value(0, 0, 0, 12), 3);
        GlassLeaders g = Edge.full();
        g.proof(0);
        g.proof(1);
        Edge.due("all", Edge.everything(g), Edge.everything(Edge.full()));
    }

    // ---------------------------------------------------------------------------- 27: hour

    static void promise27_noSuchPerson() {
        Edge.refusesAll(Edge.INDEX, Edge::full, (g, person) -> g.hour(person, 0), -1, 2);
        Edge.refusesAll(Edge.INDEX, Edge::full, (g, person) -> g.hour(person, 3), -1, 2);
    }

    static void promise27_noSuchHourBelowHours() {
        Edge.refusesAll(Edge.ARGUMENT, Edge::full, (g, hour) -> g.hour(0, hour), -1, 3, 24);
        Edge.refusesAll(Edge.ARGUMENT, () -> Edge.of(SHARED), (g, hour) -> g.hour(1, hour), -1, 24);
    }

    static void promise27_noLandFirstOfAll() {
        Edge.needsLand(g -> g.hour(0, 0), g -> g.hour(-1, 0), g -> g.hour(0, 24));
    }

    static void promise27_hisOwnHourIsWorthNothing() {
        GlassLeaders g = Edge.of(Edge.DARE);
        Edge.due("by turns", g.hour(0, 0), 0);
        Edge.due("of the other one", g.hour(1, 1), 0);
        g.turn(0, 1);
        Edge.due("told", g.hour(1, 0), 0);
    }

    static void promise27_theFirstHourAndTheLast() {
        Edge.due("both hours his: ten for three", Edge.of(Edge.DARE).hour(1, 0), 7);
        Edge.due("both hours his: eight for three", Edge.of(Edge.DARE).hour(0, 1), 5);
        GlassLeaders g = Edge.of(SHARED, "go if hour=23 and leader=0;");
        Edge.due("hour 23", g.hour(0, 23), 5);
        Edge.due("hour 22", g.hour(0, 22), 0);
        Edge.due("to who may not go", g.hour(1, 23), 0);
    }

    static void promise27_itMayBeWorthLess() {
        GlassLeaders g = Edge.of(SHARED, "go if hour=0 and leader=0;");
        Edge.due("who gains without it", g.hour(1, 0), -5);
    }

    static void promise27_timesScale() {
        GlassLeaders g = Edge.of(SHARED + "snow 0 23 23 4;", "go if hour=23 and leader=0;");
        Edge.due("twelve of sixteen", g.hour(0, 23), 60);
    }

    static void promise27_eachInHisKind() {
        GlassLeaders g = Edge.of(SHARED, "go if hour=23 and leader=0;");
        g.kind(0, 3);
        Edge.due("who rests it away", g.hour(0, 23), 0);
    }

    // ---------------------------------------------------------------------------- 28: give

    static void promise28_noLand() {
        Edge.needsLand(g -> g.give());
    }

    static void promise28_noneIfNoneGains() {
        Edge.due("of two", Edge.of(Edge.SMALL).give(), -1);
        Edge.due("there is no other", Edge.of("place;place;way 0 1;person 0;wants 0 1 5;").give(), -1);
        GlassLeaders spends = Edge.of("place;place;way 0 1;person 0;wants 0 1 5;");
        spends.kind(0, 3);
        Edge.due("nor for one who rests it away", spends.give(), -1);
        GlassLeaders five = Edge.of("place;place;way 0 1;" + Edge.times(5, "person 0;") + "hours 24;");
        Edge.due("of five", five.give(), -1);
    }

    static void promise28_bothMustGain() {
        String land = "place hut;place;way 0 1;person 0;person 0;hours 1;";
        Edge.due("both", Edge.of(land + "wants 0 1 5;wants 1 1 5;", "go if leader=1;").give(), 1);
        Edge.due("the other one alone", Edge.of(land + "wants 1 1 5;", "go if leader=1;").give(), -1);
        GlassLeaders g = Edge.of(land + "wants 0 1 5;", "rest if leader=0;go if leader=1;");
        Edge.due("who leads alone", g.give(), -1);
    }

    static void promise28_asMuchAsBeforeIsNoGain() {
        String land = "place hut;place;way 0 1;person 0;person 0;hours 1;wants 0 0 5;wants 1 0 5;wants 1 1 6;"
                + "wants 0 1 ";
        Edge.due("six for five", Edge.of(land + "6;", "go if leader=1;").give(), 1);
        Edge.due("five for five", Edge.of(land + "5;", "go if leader=1;").give(), -1);
    }

    static void promise28_theLastHour() {
        GlassLeaders g = Edge.of(SHARED, "go if hour=23;");
        Edge.due("who leads goes", g.give(), -1);
        g.kind(1, 3);
        Edge.due("who leads rests it away", g.give(), 230);
    }

    static void promise28_byHourThenByPerson() {
        GlassLeaders g = Edge.of(SHARED_BY_THREE, "go if hour=0 or hour=3;");
        g.kind(0, 3);
        Edge.due("of two hours the first, of two others the first", g.give(), 1);
        Edge.ruled(g, "go if leader=2 and hour=0 or leader=1 and hour=3;");
        Edge.due("the earlier hour, though by a later person", g.give(), 2);
        Edge.ruled(g, "go if leader=1 and hour=3 or leader=2 and hour=3;");
        Edge.due("of one hour the lesser person", g.give(), 31);
        Edge.ruled(g, "go if leader=0 and hour=1;");
        Edge.due("none to who rests it away", g.give(), -1);
    }

    static void promise28_hoursThatAreToldAreTradedToo() {
        GlassLeaders g = Edge.of(SHARED, "go if hour=0;");
        g.turn(0, 1);
        g.kind(1, 3);
        Edge.due("who was told gives it", g.give(), 0);
        g.turn(0, 0);
        Edge.due("who leads goes", g.give(), -1);
    }

    // ---------------------------------------------------------------------------- 29: price

    static void promise29_noSuchPerson() {
        Edge.refusesAll(Edge.INDEX, Edge::full, (g, person) -> g.price(0, person), -1, 2);
        Edge.refusesAll(Edge.INDEX, Edge::full, (g, person) -> g.price(3, person), -1, 2);
    }

    static void promise29_noSuchHourBelowHours() {
        Edge.refusesAll(Edge.ARGUMENT, Edge::full, (g, hour) -> g.price(hour, 0), -1, 3, 24);
        Edge.refusesAll(Edge.ARGUMENT, () -> Edge.of(SHARED), (g, hour) -> g.price(hour, 1), -1, 24);
    }

    static void promise29_noLandFirstOfAll() {
        Edge.needsLand(g -> g.price(0, 0), g -> g.price(-1, 0), g -> g.price(0, 5));
    }

    static void promise29_toHimselfNothing() {
        GlassLeaders g = Edge.of(Edge.DARE);
        Edge.due("hour 0", g.price(0, 0), 0);
        Edge.due("hour 1", g.price(1, 1), 0);
    }

    static void promise29_gainLessLoss() {
        GlassLeaders g = Edge.of(Edge.DARE);
        Edge.due("one gains seven, the other loses three", g.price(0, 1), 4);
        Edge.due("both gain five", g.price(1, 0), 10);
        Edge.due("a loss alone", Edge.of(Edge.SMALL).price(0, 1), -2);
    }

    static void promise29_theLastHourTimesScale() {
        GlassLeaders g = Edge.of(SHARED + "snow 0 23 23 4;", "go if hour=23;");
        g.kind(1, 3);
        Edge.due("hour 23: both gain twelve times five", g.price(23, 0), 120);
        Edge.due("hour 0", g.price(0, 1), 0);
    }

    static void promise29_noOneElseIsAsked() {
        GlassLeaders g = Edge.of("place hut;place;way 0 1;person 0;person 0;person 0;wants 0 1 1;wants 1 1 2;"
                + "wants 2 1 90;hours 1;", "go if leader=1;");
        Edge.due("three together", g.price(0, 1), 3);
    }

    // ---------------------------------------------------------------------------- 30: order

    static void promise30_noSuchPerson() {
        Edge.refusesAll(Edge.INDEX, Edge::full, (g, person) -> g.order(person), -2, 2);
    }

    static void promise30_noLandFirstOfAll() {
        Edge.needsLand(g -> g.order(0), g -> g.order(-1), g -> g.order(-2), g -> g.order(5));
    }

    static void promise30_oneAlone() {
        Edge.due("to all", Edge.of("place;person 0;").order(-1), 0);
        Edge.due("to him", Edge.of("place;person 0;").order(0), 0);
    }

    static void promise30_ofAlikeOnesTheFirst() {
        Edge.due("of two", Edge.of("place;" + Edge.times(2, "person 0;")).order(-1), 1);
        Edge.due("of three", Edge.of("place;" + Edge.times(3, "person 0;")).order(2), 12);
        Edge.due("of four", Edge.of("place;" + Edge.times(4, "person 0;")).order(0), 123);
        Edge.due("of five", Edge.of("place;" + Edge.times(5, "person 0;")).order(-1), 1234);
        Edge.due("who may go first", Edge.of(SHARED_BY_THREE, "go if hour=0 and leader>0;").order(-1), 102);
        Edge.due("who may go last", Edge.of(SHARED_BY_THREE, "go if hour=2 and leader=0;").order(-1), 120);
    }

    static void promise30_theLastRoundOfFive() {
        String land = "place;place;place;place;place;place end;way 0 1;way 1 2;way 2 3;way 3 4;way 4 5;hours 5;"
                + Edge.times(5, "person 0;") + "wants 0 5 9;wants 1 5 9;wants 2 5 9;wants 3 5 9;wants 4 5 9;";
        GlassLeaders g = Edge.of(land, "go if leader+hour=4;");
        Edge.due("to all", g.order(-1), 43210);
        Edge.due("to the first", g.order(0), 43210);
        Edge.due("to the last", g.order(4), 43210);
        Edge.ruled(g, "go if leader=hour;");
        Edge.due("the first round", g.order(-1), 1234);
        Edge.ruled(g, "go if leader=(hour*2)-hour/3*5;");
        Edge.due("another one", g.order(-1), 2413);
    }

    static void promise30_toOneOrToAllTogether() {
        String land = "place;place;place;way 0 1;way 0 2;person 0;person 0;hours 1;wants 0 1 5;wants 1 2 9;";
        GlassLeaders g = Edge.of(land);
        Edge.due("to 0", g.order(0), 1);
        Edge.due("to 1", g.order(1), 10);
        Edge.due("to all", g.order(-1), 10);
    }

    static void promise30_turnsAsTold() {
        GlassLeaders g = Edge.of(Edge.DARE);
        Edge.due("to 0, by turns of one", g.order(0), 10);
        g.days(2);
        Edge.due("to 0, by turns of two", g.order(0), 1);
        Edge.due("how long they are", g.days(1), 2);
    }

    static void promise30_hoursToldAside() {
        GlassLeaders g = Edge.of(Edge.DARE);
        g.turn(1, 1);
        Edge.due("1 leads hour 1 in each round", g.order(0), 1);
        g.turn(0, 0);
        Edge.due("all hours told: the first", g.order(1), 1);
    }

    static void promise30_questionsChangeNothing() {
        GlassLeaders g = Edge.full();
        g.order(-1);
        Edge.due("all", Edge.everything(g), Edge.everything(Edge.full()));
    }

    // ---------------------------------------------------------------------------- 31: length

    static void promise31_noSuchPerson() {
        Edge.refusesAll(Edge.INDEX, Edge::full, (g, person) -> g.length(person), -2, 2);
    }

    static void promise31_noLandFirstOfAll() {
        Edge.needsLand(g -> g.length(0), g -> g.length(-1), g -> g.length(-2), g -> g.length(5));
    }

    static void promise31_ofAlikeOnesTheLeast() {
        Edge.due("all alike", Edge.of("place;person 0;person 0;").length(-1), 1);
        Edge.due("from two on", Edge.of(SHARED, "go if hour=1 and leader=0;").length(-1), 2);
    }

    static void promise31_twelveAtTheMost() {
        StringBuilder line = new StringBuilder(Edge.times(11, "place;"));
        line.append("place end;person 0;person 0;hours 24;wants 0 11 9;");
        for (int place = 0; place < 11; place++) {
            line.append("way ").append(place).append(' ').append(place + 1).append(';');
        }
        Edge.due("hours 1 to 11", Edge.of(line.toString(), "go if leader=0 and hour>0;").length(0), 12);
        Edge.due("hours 0 to 10", Edge.of(line.toString(), "go if leader=0;").length(0), 11);
        GlassLeaders hut = Edge.of(SHARED, "go if hour=23 and leader=0;");
        Edge.due("hour 23 of twelve is the other one's", hut.length(0), 5);
        hut.days(12);
        Edge.due("whatever is told", hut.length(0), 5);
        Edge.due("how long they are", hut.days(1), 12);
    }

    static void promise31_toOneOrToAllTogether() {
        String land = "place;place;place;way 0 1;way 0 2;person 0;person 0;hours 2;wants 0 1 5;wants 1 2 9;";
        GlassLeaders g = Edge.of(land, "go if hour=1;");
        Edge.due("to 1, who leads hour 1 by turns of one", g.length(1), 1);
        Edge.due("to 0, who leads it by turns of two", g.length(0), 2);
        Edge.due("to all", g.length(-1), 1);
    }

    static void promise31_hoursToldAreLedAsTold() {
        GlassLeaders g = Edge.of(SHARED, "go if hour=1 and leader=0;");
        g.turn(1, 1);
        Edge.due("told to who may not go", g.length(0), 1);
        g.turn(1, 0);
        Edge.due("told to who may", g.length(0), 1);
    }

    // ---------------------------------------------------------------------------- 32: trap

    static void promise32_noSuchState() {
        Edge.refusesWrongStates((g, place, hour, stores) -> g.trap(place, hour, stores) ? 1 : 0);
    }

    static void promise32_noLandFirstOfAll() {
        Edge.needsLand(g -> g.trap(0, 0, 0) ? 1 : 0, g -> g.trap(-1, 99, 99) ? 1 : 0);
    }

    private static int trap(GlassLeaders g, int place, int hour, int stores) {
        return g.trap(place, hour, stores) ? 1 : 0;
    }

    static void promise32_oneLawfulMoveAtMost() {
        GlassLeaders g = Edge.of(Edge.SMALL, "rest if hour=0;go if to=2;");
        Edge.due("two", trap(g, 0, 0, 3), 0);
        Edge.due("one, going", trap(g, 0, 1, 3), 1);
        Edge.due("one, resting", trap(g, 2, 0, 3), 1);
        Edge.due("none, so forced", trap(g, 2, 1, 3), 1);
        Edge.due("no way at the place", trap(Edge.of("place;person 0;"), 0, 0, 12), 1);
    }

    static void promise32_whatHasEndedIsNone() {
        GlassLeaders g = Edge.of(Edge.SMALL, "go if 1=2;");
        Edge.due("at an end", trap(g, 1, 0, 3), 0);
        Edge.due("without stores", trap(g, 0, 0, 0), 0);
        Edge.due("at hour hours", trap(g, 0, 3, 3), 0);
        Edge.due("the hour before", trap(g, 0, 2, 1), 1);
    }

    static void promise32_ofWhoLeads() {
        GlassLeaders g = Edge.of(Edge.SMALL, "go if leader=1;");
        Edge.due("0 leads", trap(g, 0, 0, 3), 1);
        Edge.due("1 leads", trap(g, 0, 1, 3), 0);
    }

    // ---------------------------------------------------------------------------- 33: force

    static void promise33_noSuchState() {
        Edge.refusesWrongStates((g, place, hour, stores) -> g.force(place, hour, stores));
    }

    static void promise33_noLandFirstOfAll() {
        Edge.needsLand(g -> g.force(0, 0, 0), g -> g.force(-1, 99, 99));
    }

    static void promise33_noneIfItHasEnded() {
        GlassLeaders g = Edge.of(Edge.SMALL, "go if 1=2;");
        Edge.due("at an end", g.force(1, 0, 3), -1);
        Edge.due("without stores", g.force(0, 0, 0), -1);
        Edge.due("at hour hours", g.force(0, 3, 3), -1);
        Edge.due("two hours before", g.force(0, 1, 3), 0);
    }

    static void promise33_whatHasEndedBehindItIsNoTrap() {
        GlassLeaders g = Edge.of("place;place end;way 0 1;person 0;hours 3;store 3;", "rest if hour<2;go if hour=0;");
        Edge.due("the end, but rest is one", g.force(0, 0, 3), 0);
        Edge.due("the last hour", g.force(0, 2, 3), -1);
        Edge.due("the last store", g.force(0, 1, 1), -1);
        Edge.due("the last but one", g.force(0, 1, 2), 0);
    }

    static void promise33_forcedRestIsOneOfThem() {
        GlassLeaders g = Edge.of(Edge.SMALL, "go if 1=2;rest if 1=2;");
        Edge.due("forced, and forced again", g.force(0, 0, 3), 0);
        Edge.due("forced, then two moves", Edge.of(Edge.SMALL, "go if hour>0;rest if hour>0;").force(0, 0, 3), -1);
    }

    static void promise33_theFirstOfMore() {
        String land = "place;place;place;way 0 1;way 0 2;way 1 2;person 0;hours 3;";
        Edge.due("both ways lead to one", Edge.of(land, "go if hour=0;rest if hour=1 or place=0;").force(0, 0, 12), 0);
        Edge.due("the first way", Edge.of(land, "go if hour=0 or place=0;").force(0, 0, 12), 1);
        Edge.due("the second way", Edge.of(land, "go if not place=2;").force(0, 0, 12), 2);
        Edge.due("none", Edge.of(land).force(0, 0, 12), -1);
    }

    static void promise33_theLastWayOfTwentyFour() {
        GlassLeaders g = Edge.of("place;place;place;person 0;" + Edge.times(23, "way 0 1;") + "way 0 2;",
                "go if not place=2;");
        Edge.due("the last way", g.force(0, 0, 12), 24);
    }

    static void promise33_ofLawfulMovesAlone() {
        String land = "place;place;place;way 0 1;way 0 2;way 1 2;person 0;hours 3;";
        Edge.due("the first way is not lawful", Edge.of(land, "go if not [place>0 or to=1];").force(0, 0, 12), 2);
        Edge.due("by who leads", Edge.of(land + "person 0;", "go if leader=0 and to=2;").force(0, 0, 12), 0);
    }

    static void promise33_theNextLeaderIsTrapped() {
        GlassLeaders g = Edge.of(Edge.SMALL, "go if leader=0;");
        Edge.due("he can't do otherwise", g.force(0, 0, 3), 0);
        g.turn(1, 0);
        Edge.due("nobody else is next", g.force(0, 0, 3), -1);
    }

    static void promise33_asIfNotClosed() {
        GlassLeaders g = Edge.of(Edge.SMALL + "snow 1 0 0 16;", "go if not place=2;");
        Edge.due("closed for sure", g.force(0, 0, 3), 2);
    }

    static void promise33_aHutFillsTheStore() {
        GlassLeaders g = Edge.of("place;place hut;place;way 0 1;way 1 2;person 0;store 3;hours 9;", "go if stores<3;");
        Edge.due("behind the hut there are three", g.force(0, 0, 2), 1);
        Edge.due("with the last store, too", g.force(0, 0, 1), 1);
    }

    // ---------------------------------------------------------------------------- 34: ever

    private static final String LINE = "place;place;place end;way 0 1;way 1 2;person 0;";

    static void promise34_noSuchState() {
        Edge.refusesWrongStates((g, place, hour, stores) -> g.ever(place, hour, stores));
    }

    static void promise34_noLandFirstOfAll() {
        Edge.needsLand(g -> g.ever(0, 0, 0), g -> g.ever(-1, 99, 99));
    }

    static void promise34_noHoursIfTheyAreThere() {
        GlassLeaders g = Edge.of(LINE);
        Edge.due("at hour 0", g.ever(2, 0, 12), 0);
        Edge.due("without stores", g.ever(2, 5, 0), 0);
        Edge.due("at hour hours", g.ever(2, 12, 1), 0);
    }

    static void promise34_neverIfItHasEndedElsewhere() {
        GlassLeaders g = Edge.of(LINE);
        Edge.due("without stores", g.ever(1, 0, 0), -1);
        Edge.due("at hour hours", g.ever(1, 12, 12), -1);
        Edge.due("the hour before", g.ever(1, 11, 12), 1);
    }

    static void promise34_justInTimeAndTooLate() {
        GlassLeaders g = Edge.of(LINE + "hours 5;");
        Edge.due("just in time", g.ever(0, 3, 12), 2);
        Edge.due("too late", g.ever(0, 4, 12), -1);
    }

    static void promise34_justEnoughStoresAndTooFew() {
        GlassLeaders g = Edge.of(LINE);
        Edge.due("just enough", g.ever(0, 0, 2), 2);
        Edge.due("too few", g.ever(0, 0, 1), -1);
        GlassLeaders hut = Edge.of("place;place hut;place end;way 0 1;way 1 2;person 0;");
        Edge.due("by a hut", hut.ever(0, 0, 1), 2);
        Edge.due("a hut without stores", hut.ever(1, 0, 0), -1);
    }

    static void promise34_theFewestHours() {
        Edge.due("the shorter way", Edge.of(LINE + "way 0 2;").ever(0, 0, 12), 1);
        GlassLeaders g = Edge.of("place hut;place end;way 0 1;person 0;hours 24;", "go if hour=23;");
        Edge.due("24 hours", g.ever(0, 0, 12), 24);
        Edge.due("one hour", g.ever(0, 23, 1), 1);
    }

    static void promise34_closedForSureTheyStay() {
        Edge.due("an hour more", Edge.of(LINE + "snow 0 0 0 16;").ever(0, 0, 12), 3);
        Edge.due("by the last hour never", Edge.of(LINE + "hours 2;snow 1 1 1 16;").ever(0, 0, 12), -1);
        Edge.due("who may not rest stays all the same", Edge.of(LINE + "snow 0 0 0 16;", GOING).ever(0, 0, 12), 3);
        Edge.due("though rest is not lawful and going closed", Edge.of("place hut;place end;way 0 1;person 0;store 1;"
                + "hours 3;snow 0 0 1 16;", GOING).ever(0, 0, 1), 3);
    }

    static void promise34_otherSnowDoesNotMatter() {
        Edge.due("fifteen of sixteen", Edge.of(LINE + "snow 0 0 9 15;").ever(0, 0, 12), 2);
        Edge.due("who needs it open goes", Edge.of(LINE + "hours 2;snow 0 0 1 15;snow 1 0 1 15;").ever(0, 0, 12), 2);
    }

    static void promise34_whereItMayCloseTheyDoNotStay() {
        GlassLeaders g = Edge.of("place;place;place end;way 0 1;way 0 2;person 0;snow 0 0 0 8;",
                "rest if 1=2;go if hour=0 and to=1 or hour=1 and to=2;");
        Edge.due("from 1 there is no way any more", g.ever(0, 0, 12), -1);
        GlassLeaders sure = Edge.of("place;place;place end;way 0 1;way 0 2;person 0;snow 0 0 0 16;",
                "rest if 1=2;go if hour=0 and to=1 or hour=1 and to=2;");
        Edge.due("where it closes for sure they do", sure.ever(0, 0, 12), 2);
    }

    static void promise34_theFirstPlaceMayBeTheEnd() {
        GlassLeaders g = Edge.of("place end;place;way 0 1;person 0;start 1;");
        Edge.due("there", g.ever(0, 0, 12), 0);
        Edge.due("one hour", g.ever(1, 0, 12), 1);
        GlassLeaders last = Edge.of(Edge.times(11, "place;") + "place end;person 0;way 0 11;");
        Edge.due("the last place", last.ever(0, 0, 12), 1);
        Edge.due("from the last place but one", last.ever(10, 0, 12), -1);
    }

    static void promise34_neverIfNoRowIsLawful() {
        Edge.due("the last way is not", Edge.of(LINE, "go if to<2;").ever(0, 0, 12), -1);
        Edge.due("no end", Edge.of("place;place;way 0 1;person 0;").ever(0, 0, 12), -1);
        Edge.due("forced rest till it may be gone", Edge.of(LINE, "rest if 1=2;go if hour>2;").ever(0, 0, 12), 5);
    }

    static void promise34_lawfulToWhoLeadsThen() {
        GlassLeaders g = Edge.of(LINE + "person 0;", "go if leader=1;");
        Edge.due("hours 1 and 3", g.ever(0, 0, 12), 4);
        g.turn(2, 1);
        Edge.due("hours 1 and 2", g.ever(0, 0, 12), 3);
        g.kind(1, 3);
        Edge.due("whatever their kinds", g.ever(0, 0, 12), 3);
    }

    public static void main(String[] args) {
        Edge.runAll(GlassLeadersEdgesOfHours.class, 23, 34);
    }
}
