/** Promises 6 to 13 at their edges: what is told, kinds, plan, turns, and who leads. One test a sentence. */
public final class GlassLeadersEdgesOfTellings {
    private static final String TWO = "place;place;person 0;way 0 1;";
    private static final String FIVE = "place;person 0;person 0;person 0;person 0;person 0;hours 24;";

    // ---------------------------------------------------------------------------- 6: told

    static void promise06_anotherWhatIsRefused() {
        Edge.refusesAll(Edge.ARGUMENT, Edge::full, (g, what) -> g.told(what), -1, 9);
        Edge.refusesAll(Edge.ARGUMENT, Edge::bare, (g, what) -> g.told(what), -1, 9);
    }

    static void promise06_allThatIsTold() {
        GlassLeaders g = Edge.of("place;place;place;place;way 0 1;way 0 1;person 0;person 0;person 0;hours 5;store 6;"
                + "lost 7;start 3;snow 0 0 7 1;", "go if 1=1;rest if 1=1;go if 2=2;");
        int[] due = {4, 2, 3, 5, 6, 7, 3, 5, 3};
        for (int what = 0; what <= 8; what++) {
            Edge.due("told " + what, g.told(what), due[what]);
        }
    }

    static void promise06_theLeastThatIsTold() {
        GlassLeaders g = Edge.of("place;person 0;hours 1;store 1;");
        int[] due = {1, 0, 1, 1, 1, 0, 0, 0, 0};
        for (int what = 0; what <= 8; what++) {
            Edge.due("told " + what, g.told(what), due[what]);
        }
    }

    static void promise06_theMostThatIsTold() {
        GlassLeaders g = Edge.of(Edge.times(12, "place;") + Edge.times(24, "way 0 1;") + Edge.times(5, "person 9;")
                + "hours 24;store 12;lost 99;start 11;snow 0 14 23 16;", Edge.times(10, "go if 1=1;"));
        int[] due = {12, 24, 5, 24, 12, 99, 11, 10, 10};
        for (int what = 0; what <= 8; what++) {
            Edge.due("told " + what, g.told(what), due[what]);
        }
    }

    static void promise06_withoutALandAllButRulesIsZero() {
        GlassLeaders g = new GlassLeaders();
        for (int what = 0; what <= 8; what++) {
            Edge.due("told " + what, g.told(what), 0);
        }
        Edge.law(g, "go if 1=1;");
        Edge.land(g, "place;place;way 0 1;hours 9;store 9;lost 9;start 1;snow 0 0 1 1;");
        for (int what = 0; what <= 8; what++) {
            Edge.due("told " + what + " behind a land with a fault", g.told(what), what == 8 ? 1 : 0);
        }
    }

    static void promise06_snowyHoursBelowHours() {
        Edge.due("up to the last hour", Edge.of(TWO + "hours 4;snow 0 0 3 1;").told(7), 4);
        Edge.due("the last hour", Edge.of(TWO + "hours 4;snow 0 3 3 1;").told(7), 1);
        Edge.due("hour hours", Edge.of(TWO + "hours 4;snow 0 4 4 1;").told(7), 0);
        Edge.due("over hours", Edge.of(TWO + "hours 4;snow 0 2 9 1;").told(7), 2);
        Edge.due("hour 0", Edge.of(TWO + "hours 1;snow 0 0 0 16;").told(7), 1);
        Edge.due("hour 23", Edge.of(TWO + "hours 24;snow 0 23 23 1;").told(7), 1);
        Edge.due("of two ways, once", Edge.of(TWO + "way 0 1;snow 0 0 1 1;snow 1 1 2 1;").told(7), 3);
    }

    // ---------------------------------------------------------------------------- 7: snow

    static void promise07_noSuchWay() {
        Edge.refusesAll(Edge.ELEMENT, Edge::full, (g, way) -> g.snow(way, 0), -1, 3);
        Edge.refusesAll(Edge.ELEMENT, Edge::full, (g, way) -> g.snow(way, 24), -1, 3);
        Edge.refusesAll(Edge.ELEMENT, Edge::bare, (g, way) -> g.snow(way, 0), -1, 0);
        Edge.refuses(Edge.ELEMENT, () -> Edge.of("place;person 0;"), g -> g.snow(0, 0));
    }

    static void promise07_noSuchHour() {
        Edge.refusesAll(Edge.ARGUMENT, Edge::full, (g, hour) -> g.snow(0, hour), -1, 24);
        Edge.refusesAll(Edge.ARGUMENT, Edge::full, (g, hour) -> g.snow(2, hour), -1, 24);
    }

    static void promise07_eachHourHasItsSnow() {
        GlassLeaders g = Edge.of(TWO + "way 0 1;snow 0 0 2 3;snow 1 21 23 16;snow 0 22 23 1;hours 1;");
        int[] first = {3, 3, 3, 0};
        for (int hour = 0; hour < 4; hour++) {
            Edge.due("snow 0 " + hour, g.snow(0, hour), first[hour]);
            Edge.due("snow 1 " + hour, g.snow(1, hour), 0);
        }
        int[] last = {0, 1, 1};
        for (int hour = 21; hour < 24; hour++) {
            Edge.due("snow 0 " + hour, g.snow(0, hour), last[hour - 21]);
            Edge.due("snow 1 " + hour, g.snow(1, hour), 16);
        }
        Edge.due("snow 1 20", g.snow(1, 20), 0);
    }

    // ---------------------------------------------------------------------------- 8: wants

    static void promise08_noSuchPerson() {
        Edge.refusesAll(Edge.INDEX, Edge::full, (g, person) -> g.wants(person, 0), -1, 2);
        Edge.refusesAll(Edge.INDEX, Edge::full, (g, person) -> g.wants(person, 3), -1, 2);
        Edge.refusesAll(Edge.INDEX, Edge::full, (g, person) -> g.wants(person, -1), -1, 2);
        Edge.refusesAll(Edge.INDEX, Edge::bare, (g, person) -> g.wants(person, -1), -1, 0);
    }

    static void promise08_noSuchPlace() {
        Edge.refusesAll(Edge.ARGUMENT, Edge::full, (g, place) -> g.wants(0, place), -2, 3);
        Edge.refusesAll(Edge.ARGUMENT, Edge::full, (g, place) -> g.wants(1, place), -2, 3);
    }

    static void promise08_eachPlaceAndTheCost() {
        GlassLeaders g = Edge.of(Edge.times(12, "place;") + "person 1;person 2;person 3;person 4;person 9;"
                + "wants 0 0 1;wants 0 11 2;wants 4 0 3;wants 4 11 99;wants 2 5 6;");
        Edge.due("first of the first", g.wants(0, 0), 1);
        Edge.due("last of the first", g.wants(0, 11), 2);
        Edge.due("first of the last", g.wants(4, 0), 3);
        Edge.due("last of the last", g.wants(4, 11), 99);
        Edge.due("in the midst", g.wants(2, 5), 6);
        Edge.due("without", g.wants(2, 4), 0);
        Edge.due("cost of the first", g.wants(0, -1), 1);
        Edge.due("cost of the last", g.wants(4, -1), 9);
    }

    // ---------------------------------------------------------------------------- 9: kind

    static void promise09_noSuchPerson() {
        Edge.refusesAll(Edge.INDEX, Edge::full, (g, person) -> g.kind(person, 0), -1, 2);
        Edge.refusesAll(Edge.INDEX, Edge::full, (g, person) -> g.kind(person, 6), -1, 2);
        Edge.refusesAll(Edge.INDEX, Edge::bare, (g, person) -> g.kind(person, 0), -1, 0, 4);
    }

    static void promise09_noSuchKind() {
        Edge.refusesAll(Edge.ARGUMENT, Edge::full, (g, kind) -> g.kind(0, kind), -1, 6, 7);
        Edge.refusesAll(Edge.ARGUMENT, Edge::full, (g, kind) -> g.kind(1, kind), -1, 6);
    }

    static void promise09_whatItWas() {
        GlassLeaders g = Edge.of(FIVE);
        for (int person = 0; person < 5; person++) {
            for (int kind = 0; kind <= 5; kind++) {
                Edge.due("kind before " + kind, g.kind(person, kind), kind == 0 ? 0 : kind - 1);
            }
        }
        for (int person = 0; person < 5; person++) {
            Edge.due("the last kind of " + person, g.kind(person, 0), 5);
        }
    }

    static void promise09_aKindIsOfThePersonAlone() {
        GlassLeaders g = Edge.of(FIVE);
        g.kind(4, 3);
        g.kind(0, 1);
        int[] due = {1, 0, 0, 0, 3};
        for (int person = 0; person < 5; person++) {
            Edge.due("kind of " + person, g.kind(person, 0), due[person]);
        }
    }

    static void promise09_aKindCountsAtOnce() {
        GlassLeaders g = Edge.of(Edge.SMALL);
        Edge.due("ahead", g.takes(0, 0, 3), 1);
        g.kind(0, 3);
        Edge.due("resting it away", g.takes(0, 0, 3), 0);
        g.kind(0, 0);
        Edge.due("ahead again", g.takes(0, 0, 3), 1);
    }

    // ---------------------------------------------------------------------------- 10: plan

    static void promise10_noSuchHour() {
        Edge.refusesAll(Edge.ARGUMENT, Edge::full, (g, hour) -> g.plan(hour, 0), -1, 24);
        Edge.refusesAll(Edge.ARGUMENT, Edge::bare, (g, hour) -> g.plan(hour, 0), -1, 24);
    }

    static void promise10_noSuchMove() {
        Edge.refusesAll(Edge.ARGUMENT, Edge::full, (g, move) -> g.plan(0, move), -1, 4);
        Edge.refusesAll(Edge.ARGUMENT, Edge::full, (g, move) -> g.plan(23, move), -1, 4);
    }

    static void promise10_withoutALandThereIsRestAlone() {
        GlassLeaders g = new GlassLeaders();
        Edge.due("rest", g.plan(0, 0), 0);
        Edge.refusesAll(Edge.ARGUMENT, Edge::bare, (x, move) -> x.plan(0, move), -1, 1);
    }

    static void promise10_whatItWas() {
        GlassLeaders g = Edge.of("place;place;person 0;" + Edge.times(24, "way 0 1;"));
        for (int hour = 0; hour < 24; hour++) {
            Edge.due("at first " + hour, g.plan(hour, 24 - hour), 0);
        }
        for (int hour = 0; hour < 24; hour++) {
            Edge.due("as told " + hour, g.plan(hour, 0), 24 - hour);
        }
    }

    static void promise10_aMoveThatIsNotAtThePlaceMayBePlanned() {
        GlassLeaders g = Edge.of(Edge.SMALL);
        g.kind(0, 5);
        Edge.due("the last way", g.plan(0, 3), 0);
        Edge.due("what is taken at another place", g.takes(0, 0, 3), 0);
    }

    static void promise10_aPlanCountsAtOnce() {
        GlassLeaders g = Edge.of(Edge.SMALL);
        g.kind(0, 5);
        Edge.due("rest at first", g.takes(0, 0, 3), 0);
        g.plan(0, 2);
        Edge.due("as planned", g.takes(0, 0, 3), 2);
        g.plan(0, 0);
        Edge.due("rest again", g.takes(0, 0, 3), 0);
    }

    // ---------------------------------------------------------------------------- 11: turn

    static void promise11_noSuchPerson() {
        Edge.refusesAll(Edge.INDEX, Edge::full, (g, person) -> g.turn(0, person), -2, 2);
        Edge.refusesAll(Edge.INDEX, Edge::full, (g, person) -> g.turn(24, person), -2, 2);
        Edge.refusesAll(Edge.INDEX, Edge::bare, (g, person) -> g.turn(0, person), -2, 0);
    }

    static void promise11_noSuchHour() {
        Edge.refusesAll(Edge.ARGUMENT, Edge::full, (g, hour) -> g.turn(hour, 0), -1, 24);
        Edge.refusesAll(Edge.ARGUMENT, Edge::full, (g, hour) -> g.turn(hour, -1), -1, 24);
        Edge.refusesAll(Edge.ARGUMENT, Edge::bare, (g, hour) -> g.turn(hour, -1), -1, 24);
    }

    static void promise11_whoWasTold() {
        GlassLeaders g = Edge.of(FIVE);
        for (int hour = 0; hour < 24; hour++) {
            Edge.due("at first " + hour, g.turn(hour, hour % 3 == 0 ? 4 : 0), -1);
        }
        for (int hour = 0; hour < 24; hour++) {
            Edge.due("as told " + hour, g.turn(hour, -1), hour % 3 == 0 ? 4 : 0);
        }
        Edge.due("by turns again", g.turn(23, -1), -1);
    }

    static void promise11_noneIsByTurns() {
        GlassLeaders g = Edge.of(FIVE);
        g.turn(1, 4);
        Edge.due("told", g.whose(1), 4);
        g.turn(1, -1);
        Edge.due("by turns", g.whose(1), 1);
    }

    static void promise11_anHourBeyondHoursMayBeTold() {
        GlassLeaders g = Edge.of("place;person 0;person 0;hours 1;");
        Edge.due("told", g.turn(23, 0), -1);
        Edge.due("who leads it", g.whose(23), 0);
    }

    static void promise11_aTurnCountsAtOnce() {
        GlassLeaders g = Edge.of(Edge.SMALL);
        Edge.due("by turns", g.takes(0, 0, 3), 1);
        g.turn(0, 1);
        Edge.due("another one", g.takes(0, 0, 3), 0);
        g.turn(0, -1);
        Edge.due("by turns again", g.takes(0, 0, 3), 1);
    }

    // ---------------------------------------------------------------------------- 12: days

    static void promise12_turnsOfNoneOrThirteenHours() {
        Edge.refusesAll(Edge.ARGUMENT, Edge::full, (g, hours) -> g.days(hours), -1, 0, 13);
        Edge.refusesAll(Edge.ARGUMENT, Edge::bare, (g, hours) -> g.days(hours), -1, 0, 13);
    }

    static void promise12_asLongAsTheyWere() {
        GlassLeaders g = new GlassLeaders();
        Edge.due("at first", g.days(12), 1);
        for (int days = 12; days >= 1; days--) {
            Edge.due("as they were", g.days(Math.max(1, days - 1)), days);
        }
    }

    static void promise12_longerTurnsCountAtOnce() {
        GlassLeaders g = Edge.of(Edge.SMALL);
        g.kind(0, 3);
        Edge.due("turns of one", g.takes(0, 1, 3), 2);
        g.days(2);
        Edge.due("turns of two", g.takes(0, 1, 3), 0);
        g.days(1);
        Edge.due("turns of one again", g.takes(0, 1, 3), 2);
    }

    // ---------------------------------------------------------------------------- 13: whose

    static void promise13_noSuchHour() {
        Edge.refusesAll(Edge.ARGUMENT, Edge::full, (g, hour) -> g.whose(hour), -1, 24);
    }

    static void promise13_noLandFirstOfAll() {
        Edge.needsLand(g -> g.whose(0), g -> g.whose(23), g -> g.whose(-1), g -> g.whose(24));
    }

    static void promise13_turnsOfOneHourAtFirst() {
        GlassLeaders g = Edge.of(FIVE);
        for (int hour = 0; hour < 24; hour++) {
            Edge.due("whose " + hour, g.whose(hour), hour % 5);
        }
    }

    static void promise13_turnsAsLongAsTold() {
        GlassLeaders g = Edge.of("place;person 0;person 0;person 0;");
        for (int days = 1; days <= 12; days++) {
            g.days(days);
            int leader = 0;
            int led = 0;
            for (int hour = 0; hour < 24; hour++) {
                if (led == days) {
                    leader = leader == 2 ? 0 : leader + 1;
                    led = 0;
                }
                Edge.due("whose " + hour + " by turns of " + days, g.whose(hour), leader);
                led++;
            }
        }
    }

    static void promise13_oneLeadsAll() {
        GlassLeaders g = Edge.of("place;person 0;");
        Edge.due("the first", g.whose(0), 0);
        Edge.due("the last", g.whose(23), 0);
    }

    static void promise13_toldHoursCountInTurnsToo() {
        GlassLeaders g = Edge.of(FIVE);
        g.turn(0, 4);
        g.turn(2, 0);
        g.turn(23, 1);
        int[] due = {4, 1, 0, 3, 4, 0};
        for (int hour = 0; hour < due.length; hour++) {
            Edge.due("whose " + hour, g.whose(hour), due[hour]);
        }
        Edge.due("whose 22", g.whose(22), 2);
        Edge.due("whose 23", g.whose(23), 1);
    }

    static void promise13_hoursBeyondTheLastHaveLeadersToo() {
        GlassLeaders g = Edge.of("place;person 0;person 0;hours 1;");
        Edge.due("whose 1", g.whose(1), 1);
        Edge.due("whose 23", g.whose(23), 1);
        Edge.due("whose 22", g.whose(22), 0);
    }

    public static void main(String[] args) {
        Edge.runAll(GlassLeadersEdgesOfTellings.class, 6, 13);
    }
}
