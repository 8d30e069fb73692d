/** Promises 14 to 22 at their edges: states, lawful moves, kinds, values, journeys. One test a sentence. */
public final class GlassLeadersEdgesOfStates {
    /** A way to the end, an hour's cost of 1, nine there. */
    private static final String ROAD = "place;place end;way 0 1;person 1;wants 0 1 9;";
    private static final String GOING = "rest if 1=2;";

    // ---------------------------------------------------------------------------- 14: next

    static void promise14_noSuchState() {
        Edge.refusesWrongStates((g, place, hour, stores) -> g.next(place, hour, stores));
    }

    static void promise14_noLandFirstOfAll() {
        Edge.needsLand(g -> g.next(0, 0, 0), g -> g.next(-1, 0, 0), g -> g.next(0, 99, 0), g -> g.next(0, 0, 99));
    }

    static void promise14_noneAtAnEnd() {
        GlassLeaders g = Edge.of(Edge.SMALL);
        Edge.due("at the beginning", g.next(1, 0, 3), 0);
        Edge.due("without stores", g.next(1, 0, 0), 0);
        Edge.due("at hour hours", g.next(1, 3, 1), 0);
    }

    static void promise14_noneWithoutStores() {
        GlassLeaders g = Edge.of(Edge.SMALL);
        Edge.due("without stores", g.next(0, 0, 0), 0);
        Edge.due("at a hut", g.next(2, 0, 0), 0);
        Edge.due("with one", g.next(0, 0, 1), 7);
        Edge.due("at a hut with one", g.next(2, 0, 1), 13);
    }

    static void promise14_noneAtHourHours() {
        GlassLeaders g = Edge.of(Edge.SMALL);
        Edge.due("hour hours", g.next(0, 3, 3), 0);
        Edge.due("the hour before", g.next(0, 2, 3), 7);
        Edge.due("hour 23 of 24", Edge.of("place;person 0;hours 24;").next(0, 23, 1), 1);
        Edge.due("hour 24 of 24", Edge.of("place;person 0;hours 24;").next(0, 24, 1), 0);
    }

    static void promise14_forcedRestIsBitZero() {
        Edge.due("none lawful", Edge.of(Edge.SMALL, "go if 1=2;rest if 1=2;").next(0, 0, 3), 1);
        Edge.due("resting alone", Edge.of(Edge.SMALL, "go if 1=2;").next(0, 0, 3), 1);
        Edge.due("going alone", Edge.of(Edge.SMALL, GOING).next(0, 0, 3), 6);
        Edge.due("no way at the place", Edge.of("place;person 0;", GOING).next(0, 0, 12), 1);
    }

    static void promise14_theLastOfTwentyFourWays() {
        GlassLeaders g = Edge.of("place;place;place;person 0;" + Edge.times(23, "way 0 1;") + "way 0 2;");
        Edge.due("all", g.next(0, 0, 12), (1 << 25) - 1);
        Edge.due("the last one alone", g.next(2, 0, 12), 1 + (1 << 24));
        Edge.due("all but the last one", g.next(1, 0, 12), (1 << 24) - 1);
    }

    static void promise14_aWayOfOneOfItsPlaces() {
        GlassLeaders g = Edge.of("place;place;place;person 0;way 0 1;way 2 1;");
        Edge.due("at 0", g.next(0, 0, 12), 3);
        Edge.due("at 1", g.next(1, 0, 12), 7);
        Edge.due("at 2", g.next(2, 0, 12), 5);
    }

    static void promise14_closedForSureIsLawfulAllTheSame() {
        Edge.due("moves", Edge.of(ROAD + "snow 0 0 0 16;").next(0, 0, 12), 3);
    }

    static void promise14_allRulesOfItsSort() {
        Edge.due("two of going", Edge.of(Edge.SMALL, "go if to>0;go if to<2;").next(0, 0, 3), 3);
        Edge.due("two of resting", Edge.of(Edge.SMALL, "rest if 1=1;rest if 1=2;").next(0, 0, 3), 6);
        Edge.due("of resting alone", Edge.of(Edge.SMALL, "rest if 1=1;go if 1=2;").next(0, 0, 3), 1);
    }

    static void promise14_byWhoLeadsTheHour() {
        GlassLeaders g = Edge.of(Edge.SMALL, "go if leader=1;");
        Edge.due("0 leads", g.next(0, 0, 3), 1);
        Edge.due("1 leads", g.next(0, 1, 3), 7);
        g.turn(0, 1);
        Edge.due("1 is told", g.next(0, 0, 3), 7);
    }

    // ---------------------------------------------------------------------------- 15: takes

    static void promise15_noSuchState() {
        Edge.refusesWrongStates((g, place, hour, stores) -> g.takes(place, hour, stores));
    }

    static void promise15_noLandFirstOfAll() {
        Edge.needsLand(g -> g.takes(0, 0, 0), g -> g.takes(-1, 0, 0), g -> g.takes(0, 99, 0), g -> g.takes(0, 0, 99));
    }

    static void promise15_noneWhereItHasEnded() {
        GlassLeaders g = Edge.of(Edge.SMALL);
        Edge.due("at the end", g.takes(1, 0, 3), -1);
        Edge.due("without stores", g.takes(0, 0, 0), -1);
        Edge.due("at hour hours", g.takes(0, 3, 3), -1);
        Edge.due("the hour before", g.takes(0, 2, 1), 1);
    }

    static void promise15_ofAlikeOnesTheFirst() {
        String two = "place;place;place;way 0 1;way 0 2;person 0;hours 1;";
        for (int kind = 0; kind <= 5; kind++) {
            GlassLeaders alike = Edge.of(two);
            alike.kind(0, kind);
            Edge.due("rest as good as all, kind " + kind, alike.takes(0, 0, 12), 0);
            GlassLeaders ways = Edge.of(two + "wants 0 1 5;wants 0 2 5;", GOING);
            ways.kind(0, kind);
            Edge.due("two ways as good, kind " + kind, ways.takes(0, 0, 12), 1);
        }
    }

    static void promise15_forcedRest() {
        for (int kind = 0; kind <= 5; kind++) {
            GlassLeaders g = Edge.of(ROAD, "go if 1=2;rest if 1=2;");
            g.kind(0, kind);
            g.plan(0, 1);
            Edge.due("kind " + kind, g.takes(0, 0, 12), 0);
        }
    }

    static void promise15_aheadAtFirst() {
        GlassLeaders g = Edge.of(Edge.DARE);
        Edge.due("the other one would go to 2", g.takes(0, 0, 12), 0);
        Edge.due("so he would", g.takes(1, 1, 12), 2);
        g.kind(1, 2);
        Edge.due("as they do lead: now he would go to 3", g.takes(0, 0, 12), 1);
    }

    static void promise15_aheadByChances() {
        String two = "place;place;place;way 0 1;way 0 2;person 0;wants 0 1 10;wants 0 2 5;hours 1;snow 0 0 0 ";
        Edge.due("seven of sixteen", Edge.of(two + "7;").takes(0, 0, 12), 1);
        Edge.due("eight: both as good, the first", Edge.of(two + "8;").takes(0, 0, 12), 1);
        Edge.due("nine", Edge.of(two + "9;").takes(0, 0, 12), 2);
        String turned = "place;place;place;way 0 2;way 0 1;person 0;wants 0 1 10;wants 0 2 5;hours 1;snow 1 0 0 ";
        Edge.due("seven, the other way round", Edge.of(turned + "7;").takes(0, 0, 12), 2);
        Edge.due("eight, the other way round", Edge.of(turned + "8;").takes(0, 0, 12), 1);
    }

    static void promise15_ownAsIfHeLedAloneFromTheNextHourOn() {
        GlassLeaders g = Edge.of(Edge.DARE);
        g.kind(0, 1);
        Edge.due("he would go on to 3", g.takes(0, 0, 12), 1);
        g.turn(1, 1);
        Edge.due("told hours are as his, too", g.takes(0, 0, 12), 1);
        Edge.due("the other one's hour is not", g.takes(1, 1, 12), 2);
        Edge.ruled(g, "go if to<3 or leader=1;");
        Edge.due("by the law as leader", g.takes(0, 0, 12), 0);
        Edge.ruled(g, "go if leader=0;");
        Edge.due("by the law as leader, not as the other one", g.takes(0, 0, 12), 1);
    }

    static void promise15_ownAndBlindOfTheFirstOfFive() {
        GlassLeaders g = Edge.of(Edge.DARE + Edge.times(3, "person 0;"));
        Edge.due("ahead", g.takes(0, 0, 12), 0);
        g.kind(0, 1);
        Edge.due("own", g.takes(0, 0, 12), 1);
        GlassLeaders fear = Edge.of(Edge.DARE + "wants 0 0 4;wants 0 1 4;wants 1 3 12;" + Edge.times(3, "person 0;"));
        Edge.due("ahead, without fear", fear.takes(0, 0, 12), 1);
        fear.kind(0, 4);
        Edge.due("blind", fear.takes(0, 0, 12), 0);
    }

    static void promise15_kindAsksForWhatComesNotForDreams() {
        GlassLeaders g = Edge.of(Edge.DARE + "wants 1 2 5;wants 1 3 4;person 0;");
        g.turn(0, 2);
        g.kind(2, 2);
        g.kind(0, 1);
        Edge.due("six for resting, five for going on to 2", g.takes(0, 0, 12), 0);
        GlassLeaders five = Edge.of("place;place;place;way 0 1;way 0 2;" + Edge.times(5, "person 0;")
                + "hours 1;wants 0 1 9;wants 1 2 10;");
        five.kind(0, 2);
        Edge.due("ten to another of five is more than nine", five.takes(0, 0, 12), 2);
    }

    static void promise15_kindForAllTogether() {
        String land = "place;place;place;way 0 1;way 0 2;person 0;person 0;person 0;hours 1;wants 0 1 9;";
        GlassLeaders more = Edge.of(land + "wants 1 2 5;wants 2 2 5;");
        more.kind(0, 2);
        Edge.due("ten to the others is more than nine", more.takes(0, 0, 12), 2);
        GlassLeaders alike = Edge.of(land + "wants 1 2 5;wants 2 2 4;");
        alike.kind(0, 2);
        Edge.due("nine is as good: the first", alike.takes(0, 0, 12), 1);
        GlassLeaders ahead = Edge.of(land + "wants 1 2 99;wants 2 2 99;");
        Edge.due("one who is not", ahead.takes(0, 0, 12), 1);
    }

    static void promise15_spendRestsIfThatIsLawful() {
        GlassLeaders g = Edge.of("place;place;place;way 0 1;way 0 2;person 0;wants 0 2 9;hours 1;");
        g.kind(0, 3);
        Edge.due("rest", g.takes(0, 0, 12), 0);
        Edge.ruled(g, GOING);
        Edge.due("else the first, though the second is better", g.takes(0, 0, 12), 1);
        Edge.ruled(g, "rest if 1=2;go if to=2;");
        Edge.due("the first that is lawful", g.takes(0, 0, 12), 2);
    }

    static void promise15_blindFearsTheWorstInHoursOfOthers() {
        GlassLeaders g = Edge.of(Edge.DARE + "wants 0 0 4;wants 0 1 4;wants 0 2 5;wants 1 3 12;");
        Edge.due("ahead: the other one would go to 3", g.takes(0, 0, 12), 1);
        g.kind(0, 4);
        Edge.due("blind: from 1 he may be led to 0, 1, 2, 3; the worst is 4, as it is from 0", g.takes(0, 0, 12), 0);
        GlassLeaders h = Edge.of("place;place;place;way 0 1;way 1 2;person 0;person 0;hours 2;"
                + "wants 0 0 1;wants 0 1 2;wants 0 2 9;", "go if not [to=0 or leader=1 and place=0];");
        h.kind(0, 4);
        Edge.due("the worst of what is lawful to the other one", h.takes(0, 0, 12), 1);
    }

    static void promise15_blindHopesForTheBestInHisOwnHours() {
        GlassLeaders g = Edge.of(Edge.DARE);
        g.kind(0, 4);
        Edge.due("the next is another's", g.takes(0, 0, 12), 0);
        g.days(2);
        Edge.due("the next is his own", g.takes(0, 0, 12), 1);
        g.days(1);
        g.turn(1, 0);
        Edge.due("the next is told to be his own", g.takes(0, 0, 12), 1);
    }

    static void promise15_plannedAsToldIfThatIsLawful() {
        GlassLeaders g = Edge.of("place hut;place hut;way 0 1;way 0 1;person 0;hours 24;");
        g.kind(0, 5);
        g.plan(0, 2);
        g.plan(23, 1);
        Edge.due("hour 0", g.takes(0, 0, 12), 2);
        Edge.due("hour 1: rest at first", g.takes(0, 1, 12), 0);
        Edge.due("hour 22", g.takes(0, 22, 12), 0);
        Edge.due("hour 23", g.takes(0, 23, 12), 1);
        Edge.ruled(g, "go if hour>0;");
        Edge.due("not lawful: rest", g.takes(0, 0, 12), 0);
        Edge.ruled(g, "rest if hour>0;");
        Edge.due("told, though rest is not lawful", g.takes(0, 0, 12), 2);
        g.plan(0, 0);
        Edge.due("rest told, but not lawful: the first", g.takes(0, 0, 12), 1);
        GlassLeaders better = Edge.of("place;place;place;way 0 1;way 0 2;person 0;wants 0 2 9;hours 1;", GOING);
        better.kind(0, 5);
        Edge.due("the first, though the second is better", better.takes(0, 0, 12), 1);
    }

    static void promise15_aPlannedWayElsewhereIsNotLawful() {
        GlassLeaders g = Edge.of(Edge.SMALL);
        g.kind(0, 5);
        g.plan(0, 3);
        Edge.due("rest", g.takes(0, 0, 3), 0);
        Edge.ruled(g, GOING);
        Edge.due("the first", g.takes(0, 0, 3), 1);
        Edge.due("at its place", g.takes(2, 0, 3), 3);
    }

    // ---------------------------------------------------------------------------- 16: value

    static void promise16_noSuchPerson() {
        Edge.refusesAll(Edge.INDEX, Edge::full, (g, person) -> g.value(person, 0, 0, 0), -1, 2);
        Edge.refusesAll(Edge.INDEX, Edge::full, (g, person) -> g.value(person, 3, 4, 4), -1, 2);
    }

    static void promise16_noSuchState() {
        Edge.refusesWrongStates((g, place, hour, stores) -> g.value(1, place, hour, stores));
    }

    static void promise16_noLandFirstOfAll() {
        Edge.needsLand(g -> g.value(0, 0, 0, 0), g -> g.value(9, 0, 0, 0), g -> g.value(0, 99, 0, 0));
    }

    static void promise16_thereIsWhatHeWantsOfIt() {
        GlassLeaders g = Edge.of(Edge.SMALL);
        Edge.due("at hour 0", g.value(0, 1, 0, 3), 10);
        Edge.due("at hour hours", g.value(0, 1, 3, 3), 7);
        Edge.due("without stores it is there, not lost", g.value(0, 1, 2, 0), 8);
        Edge.due("to who wants nothing of it", g.value(1, 1, 2, 0), 0);
    }

    static void promise16_lostWhateverHeWantsOfIt() {
        GlassLeaders g = Edge.of(Edge.SMALL);
        Edge.due("at hour 0", g.value(1, 2, 0, 0), -7);
        Edge.due("hours cost", g.value(0, 0, 2, 0), -9);
        Edge.due("at hour hours it is lost, too", g.value(1, 2, 3, 0), -7);
        Edge.due("at the most", Edge.of("place;person 9;wants 0 0 99;lost 99;hours 24;").value(0, 0, 24, 0), -315);
    }

    static void promise16_elseWhatHeWantsOfThePlaceAtHourHours() {
        GlassLeaders g = Edge.of(Edge.SMALL);
        Edge.due("who wants it", g.value(1, 2, 3, 1), 5);
        Edge.due("who does not", g.value(0, 2, 3, 1), -3);
        Edge.due("at the most", Edge.of("place;person 9;wants 0 0 99;hours 24;").value(0, 0, 24, 1), 99 - 216);
    }

    static void promise16_storesAreOneLessEachHour() {
        String land = "place;person 0;wants 0 0 5;lost 9;hours 3;store ";
        Edge.due("enough for all hours", Edge.of(land + "4;").value(0, 0, 0, 4), 5);
        Edge.due("as many as hours: lost at the last", Edge.of(land + "3;").value(0, 0, 0, 3), -9);
        Edge.due("lost on the way, hours gone cost",
                Edge.of("place;person 2;lost 9;hours 9;store 3;").value(0, 0, 0, 3), -15);
    }

    static void promise16_atAHutStoresAreStore() {
        String land = "place;place hut;way 0 1;person 0;wants 0 1 5;lost 9;hours 4;store 2;";
        GlassLeaders g = Edge.of(land);
        Edge.due("come there with none left", g.value(0, 0, 0, 1), 5);
        Edge.due("resting there with one", g.value(0, 1, 0, 1), 5);
        Edge.due("resting elsewhere with one", Edge.of(land, "go if 1=2;").value(0, 0, 0, 1), -9);
        g.run(1);
        Edge.due("stores before", g.was(1, 1), 1);
        Edge.due("stores there", g.was(2, 1), 2);
        GlassLeaders one = Edge.of("place hut;person 0;wants 0 0 5;lost 9;store 1;hours 24;");
        Edge.due("a store of one", one.value(0, 0, 0, 1), 5);
    }

    static void promise16_ofAWayClosedForSureTheyStay() {
        GlassLeaders g = Edge.of(ROAD + "hours 2;snow 0 0 0 16;", GOING);
        Edge.due("one hour lost: 9 less 2, times 16", g.value(0, 0, 0, 12), 112);
        GlassLeaders hut = Edge.of("place hut;place;way 0 1;person 0;lost 9;hours 2;store 1;snow 0 0 1 16;", GOING);
        Edge.due("who stays at a hut has its store", hut.value(0, 0, 0, 1), 0);
    }

    static void promise16_byChancesTimesScale() {
        GlassLeaders g = Edge.of(ROAD + "hours 2;snow 0 0 1 1;");
        Edge.due("the last hour: 15 of 7, 1 of -2", g.value(0, 0, 1, 11), 15 * 7 - 2);
        Edge.due("the first: 15 of 8, 1 of what the last is", g.value(0, 0, 0, 12), 15 * 8 * 16 + 15 * 7 - 2);
        Edge.due("ended before: times scale", g.value(0, 1, 1, 5), 8 * 16);
        Edge.due("ended at first", g.value(0, 1, 0, 5), 9 * 256);
    }

    static void promise16_tenSnowyHoursExactly() {
        GlassLeaders g = Edge.of("place;place end;way 0 1;person 0;wants 0 1 1;hours 10;snow 0 0 9 15;");
        Edge.due("16 to the 10th less 15 to the 10th", g.value(0, 0, 0, 12), 1099511627776L - 576650390625L);
        GlassLeaders most = Edge.of("place;place end;way 0 1;person 9;wants 0 1 99;lost 99;hours 24;snow 0 0 9 16;");
        Edge.due("the greatest value", most.value(0, 1, 0, 12), 99 * (1L << 40));
        Edge.due("the least value", most.value(0, 0, 0, 0), -99 * (1L << 40));
    }

    static void promise16_theLastPersonOfFive() {
        GlassLeaders g = Edge.of("place;" + Edge.times(4, "person 0;") + "person 3;wants 4 0 99;hours 2;");
        Edge.due("value", g.value(4, 0, 0, 12), 93);
    }

    // ---------------------------------------------------------------------------- 17: scale

    static void promise17_noSuchHour() {
        Edge.refusesAll(Edge.ARGUMENT, Edge::full, (g, hour) -> g.scale(hour), -1, 4);
        Edge.refusesAll(Edge.ARGUMENT, () -> Edge.of("place;person 0;hours 24;"), (g, hour) -> g.scale(hour), -1, 25);
    }

    static void promise17_noLandFirstOfAll() {
        Edge.needsLand(g -> g.scale(0), g -> g.scale(-1), g -> g.scale(25));
    }

    static void promise17_oneAtHourHours() {
        Edge.due("with snow", Edge.of(ROAD + "hours 2;snow 0 0 1 1;").scale(2), 1);
        Edge.due("without", Edge.of("place;person 0;").scale(12), 1);
        Edge.due("without, hour 0", Edge.of("place;person 0;").scale(0), 1);
        Edge.due("of 24 hours", Edge.of("place;person 0;hours 24;").scale(24), 1);
    }

    static void promise17_sixteenForEachSnowyHour() {
        GlassLeaders g = Edge.of(ROAD + "way 0 1;hours 6;snow 0 1 2 1;snow 1 2 2 16;snow 1 5 5 3;");
        long[] due = {4096, 4096, 256, 16, 16, 16, 1};
        for (int hour = 0; hour <= 6; hour++) {
            Edge.due("scale " + hour, g.scale(hour), due[hour]);
        }
    }

    static void promise17_hoursFromTheLastOnDoNotCount() {
        Edge.due("snow at hour hours", Edge.of(ROAD + "hours 4;snow 0 4 9 1;").scale(0), 1);
        Edge.due("snow at the last hour", Edge.of(ROAD + "hours 4;snow 0 3 9 1;").scale(0), 16);
        Edge.due("and that hour's", Edge.of(ROAD + "hours 4;snow 0 3 9 1;").scale(3), 16);
    }

    static void promise17_tenSnowyHours() {
        Edge.due("the greatest", Edge.of(ROAD + "hours 24;snow 0 14 23 1;").scale(0), 1L << 40);
        Edge.due("the last of them", Edge.of(ROAD + "hours 24;snow 0 14 23 1;").scale(23), 16);
    }

    // ---------------------------------------------------------------------------- 18: all

    static void promise18_noLand() {
        Edge.needsLand(g -> g.all());
    }

    static void promise18_ofOneIsHisOwn() {
        Edge.due("all", Edge.of(ROAD).all(), 8);
    }

    static void promise18_ofFiveIsTheSumFromTheBeginning() {
        GlassLeaders g = Edge.of("place;place;place;start 2;person 1;person 2;person 3;person 4;person 9;wants 0 2 40;"
                + "wants 4 2 99;hours 2;");
        Edge.due("139 less two hours of 19", g.all(), 139 - 38);
        Edge.due("times scale", Edge.of(ROAD + "hours 1;person 2;snow 0 0 0 8;").all(), 8 * 8 - 8 - 16 * 2);
        Edge.due("with all the store", Edge.of("place;person 0;lost 9;hours 3;store 4;").all(), 0);
        String five = "place end;" + Edge.times(5, "person 0;");
        Edge.due("five at an end", Edge.of(five + "wants 0 0 7;wants 4 0 1;").all(), 8);
    }

    // ---------------------------------------------------------------------------- 19: alone

    static void promise19_noSuchPerson() {
        Edge.refusesAll(Edge.INDEX, Edge::full, (g, person) -> g.alone(person), -1, 2);
    }

    static void promise19_noLandFirstOfAll() {
        Edge.needsLand(g -> g.alone(0), g -> g.alone(-1), g -> g.alone(5));
    }

    static void promise19_atHisBestWhateverIsTold() {
        GlassLeaders g = Edge.of(Edge.DARE);
        for (int kind = 0; kind <= 5; kind++) {
            g.kind(0, kind);
            g.kind(1, kind);
            Edge.due("0 with kinds " + kind, g.alone(0), 8);
            Edge.due("1 with kinds " + kind, g.alone(1), 10);
        }
        g.turn(0, 1);
        g.turn(1, 1);
        g.days(12);
        Edge.due("whoever leads", g.alone(0), 8);
    }

    static void promise19_byTheLawAsLeaderOfAllHours() {
        GlassLeaders g = Edge.of(Edge.DARE, "go if leader=0;");
        Edge.due("who may go", g.alone(0), 8);
        Edge.due("who may not", g.alone(1), 3);
    }

    static void promise19_eachHourByTheNextOneAlone() {
        GlassLeaders g = Edge.of("place hut;place hut;place end;way 0 1;way 0 2;person 0;start 1;"
                + "wants 0 1 5;wants 0 2 9;hours 3;", "go if hour=1;");
        Edge.due("going to 0 in hour 1 comes too late for 2", g.alone(0), 5);
    }

    static void promise19_alreadyEnded() {
        Edge.due("at an end", Edge.of("place end;person 5;wants 0 0 7;").alone(0), 7);
    }

    static void promise19_theLastPersonOfFive() {
        Edge.due("alone", Edge.of(ROAD + Edge.times(3, "person 0;") + "person 2;wants 4 1 30;").alone(4), 28);
    }

    // ---------------------------------------------------------------------------- 20: run

    /** The seed whose first draw leaves the seed at this. */
    private static int seedBefore(int drawn) {
        int inverse = 1103515245;
        for (int i = 0; i < 5; i++) {
            inverse *= 2 - 1103515245 * inverse;
        }
        return (drawn - 12345) * inverse;
    }

    private static int seedOfDraws(int first, int second) {
        for (int seed = 0; seed < 1000000; seed++) {
            int one = seed * 1103515245 + 12345;
            int two = one * 1103515245 + 12345;
            if ((one >>> 16) % 16 == first && (two >>> 16) % 16 == second) {
                return seed;
            }
        }
        throw new IllegalStateException("no such seed");
    }

    static void promise20_noLand() {
        Edge.needsLand(g -> g.run(0), g -> g.run(Integer.MIN_VALUE));
    }

    static void promise20_noHourIfItHasEndedAtTheBeginning() {
        Edge.due("hours", Edge.of("place end;person 0;").run(7), 0);
    }

    static void promise20_allHours() {
        Edge.due("one", Edge.of("place;person 0;hours 1;").run(7), 1);
        Edge.due("24", Edge.of("place hut;person 0;hours 24;").run(7), 24);
        Edge.due("till stores are gone", Edge.of("place;person 0;hours 24;").run(7), 12);
    }

    static void promise20_aDrawBelowTheChanceCloses() {
        for (int chance = 1; chance <= 16; chance++) {
            GlassLeaders g = Edge.of(ROAD + "hours 1;snow 0 0 0 " + chance + ";", GOING);
            for (int draw = 0; draw < 16; draw++) {
                Edge.due("hours", g.run(seedBefore(draw << 16)), 1);
                Edge.due("draw " + draw + " by " + chance, g.ended(), draw < chance ? 0 : 1);
                Edge.due("the way was taken", g.was(0, 2), 1);
            }
        }
    }

    static void promise20_theDrawIsOfBitsSixteenToThirtyAlone() {
        GlassLeaders g = Edge.of(ROAD + "hours 1;snow 0 0 0 8;", GOING);
        int[] others = {0xffff, 0x80000000, 0x7ff00000, 0xfff0ffff};
        for (int more : others) {
            g.run(seedBefore(7 << 16 | more));
            Edge.due("draw 7", g.ended(), 0);
            g.run(seedBefore(8 << 16 | more));
            Edge.due("draw 8", g.ended(), 1);
        }
    }

    static void promise20_theSeedGoesOnFromDrawToDraw() {
        GlassLeaders g = Edge.of(ROAD + "hours 2;snow 0 0 1 8;", GOING);
        g.run(seedOfDraws(0, 15));
        Edge.due("closed, then open", g.ended(), 1);
        Edge.due("at hour 1 not there", g.was(1, 0), 0);
        g.run(seedOfDraws(7, 7));
        Edge.due("closed twice", g.ended(), 0);
        g.run(seedOfDraws(8, 0));
        Edge.due("open at once", g.was(1, 0), 1);
    }

    static void promise20_withoutSnowThereIsNoDraw() {
        String line = "place;place;place end;way 0 1;way 1 2;person 0;wants 0 2 9;hours 2;";
        GlassLeaders g = Edge.of(line + "snow 1 0 1 8;", "rest if 1=2;go if to>place;");
        g.run(seedOfDraws(0, 15));
        Edge.due("the first draw is of the second hour", g.ended(), 0);
        g.run(seedOfDraws(15, 0));
        Edge.due("so it is if it opens", g.ended(), 1);
        GlassLeaders rests = Edge.of(ROAD + "hours 2;snow 0 0 1 8;", "rest if hour=0;go if hour=1;");
        rests.run(seedOfDraws(0, 15));
        Edge.due("resting draws nothing", rests.ended(), 0);
    }

    static void promise20_closedForSureDrawsToo() {
        GlassLeaders g = Edge.of(ROAD + "hours 2;snow 0 0 0 16;snow 0 1 1 8;", GOING);
        g.run(seedOfDraws(15, 0));
        Edge.due("the second draw closes", g.ended(), 0);
        g.run(seedOfDraws(0, 15));
        Edge.due("the second draw opens", g.ended(), 1);
    }

    static void promise20_anySeed() {
        GlassLeaders g = Edge.of(ROAD + "hours 9;snow 0 0 8 8;", GOING);
        for (int seed : new int[] {0, 1, -1, Integer.MIN_VALUE, Integer.MAX_VALUE}) {
            int drawn = seed;
            int hours = 0;
            boolean open = false;
            while (!open && hours < 9) {
                drawn = (int) (drawn * 1103515245L + 12345L);
                open = (drawn >> 16 & 32767) % 16 >= 8;
                hours++;
            }
            Edge.due("hours by seed " + seed, g.run(seed), hours);
            Edge.due("ended by seed " + seed, g.ended(), open ? 1 : 0);
        }
    }

    static void promise20_theSameSeedTheSameJourney() {
        GlassLeaders g = Edge.of(ROAD + "hours 9;snow 0 0 8 12;", GOING);
        int first = g.run(99);
        g.run(7);
        Edge.due("again", g.run(99), first);
    }

    // ---------------------------------------------------------------------------- 21: was

    static void promise21_noSuchHour() {
        Edge.refusesAll(Edge.ARGUMENT, Edge::full, (g, hour) -> g.was(hour, 0), -1, 25);
        Edge.refusesAll(Edge.ARGUMENT, Edge::bare, (g, hour) -> g.was(hour, 0), -1, 25);
    }

    static void promise21_noSuchWhat() {
        Edge.refusesAll(Edge.ARGUMENT, Edge::full, (g, what) -> g.was(0, what), -1, 3);
        Edge.refusesAll(Edge.ARGUMENT, Edge::bare, (g, what) -> g.was(24, what), -1, 3);
    }

    static void promise21_noneWithoutAJourney() {
        GlassLeaders[] all = {new GlassLeaders(), Edge.of(Edge.SMALL)};
        for (GlassLeaders g : all) {
            for (int hour = 0; hour <= 24; hour++) {
                for (int what = 0; what <= 2; what++) {
                    Edge.due("was " + hour + " " + what, g.was(hour, what), -1);
                }
            }
        }
    }

    static void promise21_upToTheHourAtWhichItEnded() {
        GlassLeaders g = Edge.of("place;place hut;place end;way 0 1;way 1 2;person 1;wants 0 2 9;hours 5;store 4;");
        Edge.due("hours", g.run(0), 2);
        int[][] due = {{0, 4, 1}, {1, 4, 2}, {2, 3, -1}, {-1, -1, -1}};
        for (int hour = 0; hour <= 24; hour++) {
            for (int what = 0; what <= 2; what++) {
                Edge.due("was " + hour + " " + what, g.was(hour, what), due[Math.min(hour, 3)][what]);
            }
        }
    }

    static void promise21_ofTwentyFourHours() {
        GlassLeaders g = Edge.of("place hut;place hut;way 0 1;person 0;wants 0 1 9;hours 24;store 7;",
                "go if hour=23;");
        Edge.due("hours", g.run(0), 24);
        Edge.due("the last place but one", g.was(23, 0), 0);
        Edge.due("the last move", g.was(23, 2), 1);
        Edge.due("the last place", g.was(24, 0), 1);
        Edge.due("the last stores", g.was(24, 1), 7);
        Edge.due("no move at the last", g.was(24, 2), -1);
    }

    static void promise21_ofNoHours() {
        GlassLeaders g = Edge.of("place;place end;person 0;start 1;store 5;");
        g.run(0);
        Edge.due("place", g.was(0, 0), 1);
        Edge.due("stores", g.was(0, 1), 5);
        Edge.due("move", g.was(0, 2), -1);
        Edge.due("place an hour later", g.was(1, 0), -1);
    }

    static void promise21_theLatestJourneyCounts() {
        GlassLeaders g = Edge.of(Edge.SMALL);
        g.kind(0, 3);
        Edge.due("long", g.run(0), 3);
        Edge.due("where it was", g.was(3, 0), 2);
        g.kind(0, 0);
        Edge.due("short", g.run(0), 1);
        Edge.due("where it was", g.was(1, 0), 1);
        Edge.due("no longer", g.was(2, 0), -1);
        Edge.due("no longer at all", g.was(3, 1), -1);
    }

    static void promise21_whatIsToldLaterDoesNotChangeIt() {
        GlassLeaders g = Edge.of(Edge.SMALL);
        g.run(0);
        g.kind(0, 3);
        Edge.ruled(g, "go if 1=2;");
        g.value(0, 0, 0, 3);
        Edge.due("move", g.was(0, 2), 1);
        Edge.due("place", g.was(1, 0), 1);
        Edge.due("ended", g.ended(), 1);
    }

    // ---------------------------------------------------------------------------- 22: ended

    static void promise22_noneWithoutAJourney() {
        Edge.due("without a land", new GlassLeaders().ended(), -1);
        Edge.due("with one", Edge.of(Edge.SMALL).ended(), -1);
    }

    private static int endOf(String land) {
        GlassLeaders g = Edge.of(land);
        g.run(0);
        return g.ended();
    }

    static void promise22_thereThoughStoresAreGone() {
        Edge.due("at the last hour, too", endOf(ROAD + "store 1;hours 1;"), 1);
        Edge.due("at the beginning", endOf("place end;person 0;"), 1);
    }

    static void promise22_lostThoughItIsHourHours() {
        Edge.due("as many stores as hours", endOf("place;person 0;hours 3;store 3;"), 2);
        Edge.due("less", endOf("place;person 0;hours 3;store 2;"), 2);
    }

    static void promise22_atHourHoursElse() {
        Edge.due("one store left", endOf("place;person 0;hours 3;store 4;"), 0);
        Edge.due("at a hut", endOf("place hut;person 0;hours 24;store 1;"), 0);
    }

    public static void main(String[] args) {
        Edge.runAll(GlassLeadersEdgesOfStates.class, 14, 22);
    }
}
