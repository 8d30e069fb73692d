/** Promises 35 to 51 at their edges: chances, kinds tried out, pacts, votes, images, counts. One test a sentence. */
public final class GlassLeadersEdgesOfChances {
    /** A way to the end, an hour's cost of 1, nine there. */
    private static final String ROAD = "place;place end;way 0 1;person 1;wants 0 1 9;";
    private static final String LINE = "place;place;place end;way 0 1;way 1 2;person 0;wants 0 2 9;";
    private static final String GOING = "rest if 1=2;";
    /** Two huts, the other one wanted by two, each as much; 24 hours, by turns. */
    private static final String SHARED =
            "place hut;place hut;way 0 1;person 0;person 0;wants 0 1 5;wants 1 1 5;hours 24;";

    // ---------------------------------------------------------------------------- 35: there

    static void promise35_anotherWhatIsRefused() {
        Edge.refusesAll(Edge.ARGUMENT, Edge::full, (g, what) -> g.there(what), -1, 2);
    }

    static void promise35_noLandFirstOfAll() {
        Edge.needsLand(g -> g.there(0), g -> g.there(1), g -> g.there(-1), g -> g.there(2));
    }

    static void promise35_forSureAndNever() {
        GlassLeaders there = Edge.of("place end;person 0;");
        Edge.due("there at the beginning", there.there(0), 1);
        Edge.due("so not lost", there.there(1), 0);
        GlassLeaders lost = Edge.of("place;person 0;store 1;hours 1;");
        Edge.due("lost in the last hour", lost.there(1), 1);
        Edge.due("so not there", lost.there(0), 0);
        GlassLeaders late = Edge.of("place;person 0;store 2;hours 1;");
        Edge.due("late is not there", late.there(0), 0);
        Edge.due("late is not lost", late.there(1), 0);
    }

    static void promise35_byChancesTimesScale() {
        GlassLeaders g = Edge.of(ROAD + "lost 9;store 2;hours 2;snow 0 0 1 1;");
        Edge.due("there", g.there(0), 255);
        Edge.due("lost", g.there(1), 1);
        Edge.due("of ten snowy hours", Edge.of(ROAD + "hours 10;snow 0 0 9 15;", GOING).there(0),
                1099511627776L - 576650390625L);
        Edge.due("closed for sure", Edge.of(ROAD + "hours 10;snow 0 0 9 16;", GOING).there(0), 0);
        Edge.due("for sure, times the greatest scale", Edge.of(ROAD + "hours 11;snow 0 0 9 1;").there(0), 1L << 40);
    }

    // ---------------------------------------------------------------------------- 36: blind

    /** 0 goes, if he looks ahead: 1 will go on to 3; 0 rests, if he is blind. */
    private static final String FEAR = Edge.DARE + "wants 0 0 4;wants 0 1 4;wants 1 1 4;wants 1 3 12;";

    static void promise36_noSuchPerson() {
        Edge.refusesAll(Edge.INDEX, Edge::full, (g, person) -> g.blind(person), -1, 2);
    }

    static void promise36_noLandFirstOfAll() {
        Edge.needsLand(g -> g.blind(0), g -> g.blind(-1), g -> g.blind(5));
    }

    static void promise36_nothingInTheLastHourAndAlone() {
        Edge.due("the last hour is his own", Edge.of(FEAR).blind(1), 0);
        Edge.due("one alone", Edge.of(ROAD).blind(0), 0);
        Edge.due("it has ended", Edge.of("place end;person 0;").blind(0), 0);
    }

    static void promise36_whateverHisKindOthersAsTheyAre() {
        GlassLeaders g = Edge.of(FEAR);
        for (int kind = 0; kind <= 5; kind++) {
            g.kind(0, kind);
            Edge.due("of kind " + kind, g.blind(0), 4);
        }
        g.kind(1, 3);
        Edge.due("the other one rests it away", g.blind(0), 0);
    }

    static void promise36_timesScale() {
        Edge.due("an hour of snow on another way", Edge.of(FEAR + "way 2 3;snow 3 0 0 1;").blind(0), 64);
    }

    // ---------------------------------------------------------------------------- 37: asks

    static void promise37_noSuchPerson() {
        Edge.refusesAll(Edge.INDEX, Edge::full, (g, person) -> g.asks(person), -1, 2);
    }

    static void promise37_noLandFirstOfAll() {
        Edge.needsLand(g -> g.asks(0), g -> g.asks(-1), g -> g.asks(5));
    }

    static void promise37_ofAlikeOnesTheFirst() {
        Edge.due("all alike", Edge.of("place;person 0;").asks(0), 0);
        GlassLeaders g = Edge.of("place;person 0;");
        g.kind(0, 5);
        Edge.due("whatever he is", g.asks(0), 0);
        Edge.due("to look ahead alone", Edge.of(ROAD).asks(0), 0);
    }

    /** 0 goes to 1 in hour 0 only if 1 will go on to 2, from where 0 goes to 3 in hour 2. */
    private static final String TRUST = "place;place;place;place;place;way 0 1;way 1 2;way 2 3;person 0;person 0;"
            + "wants 0 0 3;wants 1 0 1;wants 1 3 2;hours 3;";
    private static final String ONWARD = "go if place>0 and to>place or hour=0;";

    static void promise37_eachOtherKind() {
        Edge.due("1, own: dreams of 4",
                Edge.of(TRUST + "way 2 4;wants 0 3 9;wants 1 1 5;wants 1 4 10;", ONWARD).asks(1), 1);
        Edge.due("2, for all", Edge.of(Edge.DARE).asks(1), 2);
        Edge.due("3, resting it away", Edge.of(Edge.DARE + "wants 0 1 8;wants 1 1 5;wants 1 2 20;",
                "go if place>0 or hour=0;").asks(1), 3);
        Edge.due("4, blind: fears to be led to 4",
                Edge.of(TRUST + "way 1 4;wants 0 3 4;wants 1 1 7;wants 1 2 1;", ONWARD).asks(1), 4);
    }

    static void promise37_plannedByThePlanAsItIs() {
        GlassLeaders g = Edge.of(Edge.DARE + "wants 1 2 20;");
        Edge.due("by a plan of rest", g.asks(1), 0);
        g.plan(1, 3);
        Edge.due("by a plan to go to 3", g.asks(1), 5);
    }

    static void promise37_questionsChangeNothing() {
        GlassLeaders g = Edge.full();
        g.asks(0);
        g.blind(1);
        Edge.due("all", Edge.everything(g), Edge.everything(Edge.full()));
    }

    // ---------------------------------------------------------------------------- 38: beside

    static void promise38_noSuchPerson() {
        Edge.refusesAll(Edge.INDEX, Edge::full, (g, person) -> g.beside(person), -1, 2);
    }

    static void promise38_noLandFirstOfAll() {
        Edge.needsLand(g -> g.beside(0), g -> g.beside(-1), g -> g.beside(5));
    }

    static void promise38_aloneLessAsItIs() {
        GlassLeaders g = Edge.of(Edge.DARE);
        Edge.due("eight less three", g.beside(0), 5);
        Edge.due("ten less three", g.beside(1), 7);
        Edge.due("who leads all at his best", Edge.of(ROAD).beside(0), 0);
        Edge.due("who may not go himself", Edge.of(SHARED, "go if leader=1 and hour=1;").beside(0), -5);
    }

    static void promise38_timesScale() {
        Edge.due("an hour of snow on another way", Edge.of(Edge.DARE + "way 2 3;snow 3 1 1 1;").beside(0), 80);
    }

    // ---------------------------------------------------------------------------- 39: pact

    static void promise39_noSuchPerson() {
        Edge.refusesAll(Edge.INDEX, Edge::full, (g, person) -> g.pact(person, 0, 0), -1, 2);
        Edge.refusesAll(Edge.INDEX, Edge::full, (g, other) -> g.pact(0, other, 0), -1, 2);
        Edge.refuses(Edge.INDEX, Edge::full, g -> g.pact(2, 2, 0), g -> g.pact(-1, -1, 0), g -> g.pact(2, 0, 9),
                g -> g.pact(0, 2, 9));
    }

    static void promise39_theyAreOne() {
        Edge.refuses(Edge.ARGUMENT, Edge::full, g -> g.pact(0, 0, 0), g -> g.pact(1, 1, 1));
    }

    static void promise39_anotherWhatIsRefused() {
        Edge.refusesAll(Edge.ARGUMENT, Edge::full, (g, what) -> g.pact(0, 1, what), -1, 2);
    }

    static void promise39_noLandFirstOfAll() {
        Edge.needsLand(g -> g.pact(0, 1, 0), g -> g.pact(0, 0, 0), g -> g.pact(9, 9, 9));
    }

    static void promise39_toTheFirstAndToTheOther() {
        GlassLeaders g = Edge.of(Edge.DARE + "wants 1 3 9;");
        Edge.due("to 0", g.pact(0, 1, 0), 5);
        Edge.due("to 1", g.pact(0, 1, 1), 6);
        Edge.due("to 1, who is first", g.pact(1, 0, 0), 6);
        Edge.due("to 0, who is the other one", g.pact(1, 0, 1), 5);
    }

    static void promise39_itMayBeWorthLessOrNothing() {
        Edge.due("nothing", Edge.of(Edge.SMALL).pact(0, 1, 1), 0);
        String two = "place;place;place;way 0 1;way 0 2;person 0;person 0;hours 1;wants 0 1 5;wants 1 2 9;";
        Edge.due("less to who would have gone to 1", Edge.of(two).pact(0, 1, 0), -5);
        Edge.due("more to the other one", Edge.of(two).pact(0, 1, 1), 9);
        Edge.due("together as much: the first", Edge.of(two + "wants 1 2 5;").pact(0, 1, 1), 0);
    }

    static void promise39_othersAsTheyAre() {
        String three = Edge.DARE + "person 0;wants 2 2 9;";
        GlassLeaders g = Edge.of(three);
        g.turn(1, 2);
        Edge.due("to 0, who would go for 1: the third one goes on to 2", g.pact(0, 1, 0), -3);
        Edge.due("to 1", g.pact(0, 1, 1), 7);
        g.turn(1, 1);
        g.kind(2, 3);
        Edge.due("the third one leads none", g.pact(0, 1, 0), 5);
    }

    static void promise39_whateverTheirKinds() {
        GlassLeaders g = Edge.of(Edge.DARE);
        g.kind(0, 3);
        g.kind(1, 3);
        Edge.due("both rest it away without", g.pact(0, 1, 0), 5);
    }

    // ---------------------------------------------------------------------------- 40: holds

    static void promise40_noLand() {
        Edge.needsLand(g -> g.holds());
    }

    static void promise40_noneHolds() {
        Edge.due("of two", Edge.of(Edge.SMALL).holds(), -1);
        GlassLeaders spends = Edge.of(ROAD);
        Edge.due("of one", spends.holds(), -1);
        spends.kind(0, 3);
        Edge.due("of one with himself", spends.holds(), -1);
        Edge.due("of five", Edge.of(PACTS).holds(), -1);
    }

    static void promise40_itIsWorthMoreToEachOfBoth() {
        Edge.due("one more to 1", Edge.of(Edge.DARE + "wants 1 0 7;").holds(), 1);
        Edge.due("as much to 1", Edge.of(Edge.DARE + "wants 1 0 8;").holds(), -1);
        Edge.due("one more to 0", Edge.of(Edge.DARE + "wants 0 0 7;").holds(), 1);
        Edge.due("as much to 0", Edge.of(Edge.DARE + "wants 0 0 8;").holds(), -1);
    }

    private static final String PACTS = "place;place;place;place;way 0 1;way 1 2;way 1 3;hours 2;"
            + Edge.times(5, "person 0;");

    private static String dared(int one, int two) {
        return "wants " + one + " 0 3;wants " + one + " 3 8;wants " + two + " 0 3;wants " + two + " 2 10;wants " + two
                + " 3 8;";
    }

    static void promise40_theLastTwoOfFive() {
        GlassLeaders g = Edge.of(PACTS + dared(3, 4));
        g.turn(0, 3);
        g.turn(1, 4);
        Edge.due("holds", g.holds(), 34);
        g.turn(0, 4);
        g.turn(1, 3);
        Edge.due("the other way round 4 dares", g.holds(), -1);
    }

    static void promise40_theLesserPersonIsTold() {
        GlassLeaders g = Edge.of(PACTS + dared(4, 2));
        g.turn(0, 4);
        g.turn(1, 2);
        Edge.due("holds", g.holds(), 24);
    }

    static void promise40_byTheLesserThenTheOther() {
        GlassLeaders g = Edge.of(PACTS + dared(1, 2) + "wants 3 3 1;wants 4 3 1;");
        g.turn(0, 1);
        g.turn(1, 2);
        Edge.due("of 12 and others", g.holds(), 12);
        GlassLeaders h = Edge.of(PACTS + "wants 0 0 2;wants 0 3 3;wants 1 0 2;wants 1 3 9;wants 2 0 2;wants 2 2 4;"
                + "wants 2 3 3;");
        h.turn(0, 0);
        h.turn(1, 2);
        Edge.due("1 does not lead, so 0 with 2", h.holds(), 2);
    }

    // ---------------------------------------------------------------------------- 41: mind

    static void promise41_noLand() {
        Edge.needsLand(g -> g.mind());
    }

    static void promise41_fromTheFirstHourOn() {
        Edge.due("one alone", Edge.of(ROAD).mind(), 0);
        Edge.due("all want the same", Edge.of(ROAD + "person 1;wants 1 1 9;").mind(), 0);
        Edge.due("it has ended", Edge.of("place end;person 0;person 0;").mind(), 0);
        Edge.due("one move alone", Edge.of("place;person 0;person 9;hours 1;").mind(), 0);
    }

    static void promise41_hoursIfOnlyThen() {
        Edge.due("of one hour", Edge.of("place;place;way 0 1;person 0;person 0;wants 1 1 9;hours 1;").mind(), 1);
        Edge.due("of 24", Edge.of(SHARED + "wants 1 1 0;", "go if hour=23;").mind(), 24);
        Edge.due("of 24, from the last hour on", Edge.of(SHARED + "wants 1 1 0;", "go if hour=22;").mind(), 23);
        Edge.due("from hour 1 on", Edge.of(SHARED + "wants 1 1 0;", "go if hour=0;").mind(), 1);
    }

    static void promise41_inStatesThatCanCome() {
        String fork = "place;place;place end;place end;way 0 1;way 1 2;way 1 3;person 0;person 0;"
                + "wants 0 2 9;wants 1 3 9;hours 4;";
        Edge.due("the fork can come till the last hour", Edge.of(fork).mind(), 4);
        Edge.due("in hour 1 alone", Edge.of(fork, "rest if hour>0 and place=0;go if hour=0 or place=1;").mind(), 2);
        Edge.due("the fork can't come", Edge.of(fork, "go if place=1;").mind(), 0);
        Edge.due("by moves they would not take, too",
                Edge.of(fork + "wants 0 0 50;wants 1 0 50;", "go if to>place;").mind(), 4);
    }

    static void promise41_closedOrNotAsSnowLets() {
        String fork = "place;place;place end;place end;way 0 1;way 1 2;way 1 3;person 0;person 0;"
                + "wants 0 2 9;wants 1 3 9;hours 4;";
        String once = "go if hour=0 or place=1;";
        Edge.due("closed for sure: not at the fork", Edge.of(fork + "snow 0 0 0 16;", once).mind(), 0);
        Edge.due("closed by fifteen", Edge.of(fork + "snow 0 0 0 15;", once).mind(), 4);
        String two = "place;place end;place end;way 0 1;way 0 2;person 0;person 0;wants 0 1 9;wants 1 2 9;hours 2;";
        String gone = "go if hour=1 or to=1;rest if hour=1;";
        Edge.due("they may stay where it closes by one", Edge.of(two + "snow 0 0 0 1;", gone).mind(), 2);
        Edge.due("not where it does not", Edge.of(two, gone).mind(), 0);
    }

    static void promise41_ofMovesLawfulToWhoLeads() {
        String two = "place;place end;place end;way 0 1;way 0 2;person 0;person 0;wants 0 1 9;wants 1 2 9;hours 1;";
        Edge.due("both ways", Edge.of(two).mind(), 1);
        Edge.due("one way for 0, who leads", Edge.of(two, "go if leader=1 or to=1;rest if leader=1;").mind(), 0);
        Edge.due("one way for 1, who does not", Edge.of(two, "go if leader=0 or to=1;rest if leader=0;").mind(), 1);
    }

    static void promise41_ofAllPersonsTheLast() {
        String two = "place;place end;place end;way 0 1;way 0 2;" + Edge.times(5, "person 0;")
                + "wants 0 1 9;wants 1 1 9;wants 2 1 9;wants 3 1 9;hours 1;wants 4 ";
        Edge.due("the last is of another mind", Edge.of(two + "2 9;").mind(), 1);
        Edge.due("the last is of the same", Edge.of(two + "1 9;").mind(), 0);
    }

    static void promise41_withTheStoresThatCanCome() {
        String two = "place;place;way 0 1;person 0;person 0;wants 0 1 9;hours 2;";
        Edge.due("eleven in hour 1", Edge.of(two, "go if stores=11;").mind(), 2);
        Edge.due("ten do not come", Edge.of(two, "go if stores=10;").mind(), 0);
        Edge.due("two of three", Edge.of(two + "store 3;", "go if stores=2;").mind(), 2);
        Edge.due("a hut is full", Edge.of("place hut;place;way 0 1;person 0;person 0;wants 0 1 9;hours 2;store 5;",
                "go if stores<5;").mind(), 0);
    }

    static void promise41_otherQuestionsDoNotMatter() {
        String fork = "place;place;place end;place end;way 0 1;way 1 2;way 1 3;person 0;person 0;"
                + "wants 0 2 9;wants 1 3 9;hours 4;";
        GlassLeaders g = Edge.of(fork, "go if place=1;");
        g.ever(1, 0, 12);
        Edge.due("the fork was asked for, but can't come", g.mind(), 0);
        GlassLeaders dare = Edge.of(Edge.DARE);
        dare.all();
        dare.vote();
        Edge.due("a vote was tried out", dare.mind(), 2);
        Edge.due("the first and the last place of twelve", Edge.of("place;" + Edge.times(10, "place;")
                + "place hut;way 0 11;person 0;person 0;wants 1 11 9;hours 24;", "go if hour=0;").mind(), 1);
    }

    static void promise41_whatHasEndedIsNotAsked() {
        Edge.due("at the end and without stores", Edge.of("place;place end;way 0 1;person 0;person 0;wants 0 1 9;"
                + "hours 3;store 1;", "rest if 1=2;").mind(), 0);
    }

    // ---------------------------------------------------------------------------- 42: arrives

    static void promise42_noSuchHour() {
        Edge.refusesAll(Edge.ARGUMENT, Edge::full, (g, hour) -> g.arrives(hour, 0), -1, 4);
        Edge.refusesAll(Edge.ARGUMENT, () -> Edge.of(SHARED), (g, hour) -> g.arrives(hour, 2), -1, 25);
    }

    static void promise42_anotherWhatIsRefused() {
        Edge.refusesAll(Edge.ARGUMENT, Edge::full, (g, what) -> g.arrives(0, what), -1, 3);
        Edge.refusesAll(Edge.ARGUMENT, Edge::full, (g, what) -> g.arrives(3, what), -1, 3);
    }

    static void promise42_noLandFirstOfAll() {
        Edge.needsLand(g -> g.arrives(0, 0), g -> g.arrives(-1, 0), g -> g.arrives(0, 9));
    }

    private static void arrives(String land, String law, int at, int how, long chance) {
        GlassLeaders g = Edge.of(land, law);
        for (int hour = 0; hour <= g.told(3); hour++) {
            for (int what = 0; what <= 2; what++) {
                Edge.due("arrives " + hour + " " + what, g.arrives(hour, what), hour == at && what == how ? chance : 0);
            }
        }
    }

    static void promise42_justAtAnHour() {
        arrives("place end;person 0;", "", 0, 0, 1);
        arrives(ROAD, "", 1, 0, 1);
        arrives("place hut;place end;way 0 1;person 0;wants 0 1 5;hours 24;", "go if hour=23;", 24, 0, 1);
        arrives("place;person 0;hours 4;store 3;", "", 3, 1, 1);
        arrives("place;person 0;hours 4;store 4;", "", 4, 1, 1);
        arrives("place;person 0;hours 4;store 5;", "", 4, 2, 1);
        arrives("place hut;person 0;hours 24;", "", 24, 2, 1);
        arrives(ROAD + "hours 1;store 1;", "", 1, 0, 1);
        arrives("place;place end;way 0 1;person 0;hours 4;store 3;snow 0 0 0 4;", "go if 1=2;", 3, 1, 16);
    }

    static void promise42_byChancesTimesScaleOfHourZero() {
        GlassLeaders g = Edge.of(ROAD + "hours 3;store 2;lost 9;snow 0 0 1 1;");
        Edge.due("there at 1", g.arrives(1, 0), 240);
        Edge.due("there at 2", g.arrives(2, 0), 15);
        Edge.due("lost at 2", g.arrives(2, 1), 1);
        Edge.due("none at 3", g.arrives(3, 0) + g.arrives(3, 1) + g.arrives(3, 2), 0);
        GlassLeaders ten = Edge.of(ROAD + "hours 10;snow 0 0 9 15;", GOING);
        Edge.due("there at 1 of ten", ten.arrives(1, 0), 1L << 36);
        Edge.due("late at ten", ten.arrives(10, 2), 576650390625L);
        Edge.due("there at ten", ten.arrives(10, 0), 38443359375L);
    }

    static void promise42_otherQuestionsDoNotMatter() {
        GlassLeaders g = Edge.of(Edge.DARE);
        g.all();
        Edge.due("alone he would go", g.alone(0), 8);
        Edge.due("they rest", g.arrives(2, 2), 1);
        Edge.due("alone again", g.alone(0), 8);
        Edge.due("at 0 all the time", g.visits(0), 3);
        Edge.due("alone once more", g.alone(0), 8);
        Edge.due("never at 1", g.visits(1), 0);
    }

    // ---------------------------------------------------------------------------- 43: visits

    static void promise43_noSuchPlace() {
        Edge.refusesAll(Edge.ARGUMENT, Edge::full, (g, place) -> g.visits(place), -1, 3);
        Edge.refusesAll(Edge.ARGUMENT, () -> Edge.of(Edge.times(12, "place;") + "person 0;"),
                (g, place) -> g.visits(place), -1, 12);
    }

    static void promise43_noLandFirstOfAll() {
        Edge.needsLand(g -> g.visits(0), g -> g.visits(-1), g -> g.visits(12));
    }

    static void promise43_fromHourZeroToThatAtWhichItEndedThisOneToo() {
        Edge.due("ended at the beginning", Edge.of("place end;person 0;").visits(0), 1);
        Edge.due("one hour", Edge.of("place;person 0;hours 1;").visits(0), 2);
        Edge.due("24 hours", Edge.of("place hut;person 0;hours 24;").visits(0), 25);
        Edge.due("lost with the third", Edge.of("place;person 0;hours 24;store 3;").visits(0), 4);
        GlassLeaders g = Edge.of(LINE);
        Edge.due("on the way", g.visits(1), 1);
        Edge.due("at its end", g.visits(2), 1);
        Edge.due("the last place of twelve",
                Edge.of(Edge.times(11, "place;") + "place end;person 0;start 11;").visits(11), 1);
        Edge.due("where they never are", Edge.of(Edge.times(12, "place;") + "person 0;").visits(11), 0);
    }

    static void promise43_byChancesTimesScaleOfHourZero() {
        GlassLeaders g = Edge.of(ROAD + "hours 3;snow 0 0 1 1;");
        Edge.due("at 0 for one, perhaps two or three", g.visits(0), 256 + 16 + 1);
        Edge.due("at 1", g.visits(1), 256);
        GlassLeaders ten = Edge.of("place;place hut;person 0;way 0 1;hours 24;start 1;snow 0 0 9 1;", "go if 1=2;");
        Edge.due("the most that can be", ten.visits(1), 25L << 40);
    }

    // ---------------------------------------------------------------------------- 44: without

    static void promise44_noSuchRule() {
        Edge.refusesAll(Edge.ELEMENT, Edge::full, (g, rule) -> g.without(rule, 0), -1, 2);
        Edge.refusesAll(Edge.ELEMENT, () -> Edge.of(Edge.SMALL), (g, rule) -> g.without(rule, -1), -1, 0);
        Edge.refusesAll(Edge.ELEMENT, () -> Edge.of(Edge.SMALL, Edge.times(10, "go if 1=1;")),
                (g, rule) -> g.without(rule, 0), -1, 10);
    }

    static void promise44_noSuchPerson() {
        Edge.refusesAll(Edge.INDEX, Edge::full, (g, person) -> g.without(0, person), -2, 2);
        Edge.refusesAll(Edge.INDEX, Edge::full, (g, person) -> g.without(9, person), -2, 2);
    }

    static void promise44_noLandFirstOfAll() {
        Edge.needsLand(g -> g.without(0, 0), g -> g.without(-1, 0), g -> g.without(0, -2));
    }

    static void promise44_theFirstRuleAndTheLast() {
        GlassLeaders g = Edge.of(Edge.SMALL, "go if 1=2;" + Edge.times(9, "rest if 1=1;"));
        Edge.due("the first: nine for minus ten, to 0", g.without(0, 0), 19);
        Edge.due("the last", g.without(9, 0), 0);
        GlassLeaders h = Edge.of(Edge.SMALL, Edge.times(9, "rest if 1=1;") + "go if 1=2;");
        Edge.due("the first", h.without(0, 0), 0);
        Edge.due("the last: nine for minus ten, to 0", h.without(9, 0), 19);
    }

    static void promise44_toOneOrToAllTogether() {
        GlassLeaders g = Edge.of(Edge.SMALL, "go if 1=2;");
        Edge.due("to 0", g.without(0, 0), 19);
        Edge.due("to 1: nothing for minus seven", g.without(0, 1), 7);
        Edge.due("to all", g.without(0, -1), 26);
    }

    static void promise44_oneOfTwoThatSayTheSame() {
        Edge.due("the other one stays", Edge.of(Edge.SMALL, "go if 1=2;go if 1=2;").without(0, -1), 0);
    }

    static void promise44_itMayBeWorthLess() {
        GlassLeaders g = Edge.of(Edge.DARE, "go if not to=2;");
        Edge.due("who would go to 2 then", g.without(0, 0), -5);
        Edge.due("times scale", Edge.of(Edge.DARE + "way 2 3;snow 3 1 1 1;", "go if not to=2;").without(0, 0), -80);
    }

    static void promise44_theRuleIsThereAgainThen() {
        GlassLeaders g = Edge.of(Edge.SMALL, "go if 1=2;");
        Edge.due("without", g.without(0, 0), 19);
        Edge.due("moves", g.next(0, 0, 3), 1);
        Edge.due("alone", g.alone(0), -10);
        Edge.due("ever", g.ever(0, 0, 3), -1);
        Edge.due("without again", g.without(0, 0), 19);
        Edge.due("stores needed", g.needs(), -1);
        Edge.due("as it is", g.value(0, 0, 0, 3), -10);
    }

    static void promise44_theLawStaysAsItIs() {
        GlassLeaders g = Edge.full();
        g.without(0, -1);
        g.without(1, -1);
        Edge.due("all", Edge.everything(g), Edge.everything(Edge.full()));
    }

    // ---------------------------------------------------------------------------- 45: swap

    static void promise45_noSuchPerson() {
        Edge.refusesAll(Edge.INDEX, Edge::full, (g, person) -> g.swap(person, 0), -1, 2);
        Edge.refusesAll(Edge.INDEX, Edge::full, (g, other) -> g.swap(0, other), -1, 2);
        Edge.refuses(Edge.INDEX, Edge::full, g -> g.swap(2, 2), g -> g.swap(-1, -1));
    }

    static void promise45_theyAreOne() {
        Edge.refuses(Edge.ARGUMENT, Edge::full, g -> g.swap(0, 0), g -> g.swap(1, 1));
    }

    static void promise45_noLandFirstOfAll() {
        Edge.needsLand(g -> g.swap(0, 1), g -> g.swap(0, 0), g -> g.swap(9, 9));
    }

    static void promise45_noneByWhichBothGain() {
        Edge.due("none", Edge.of(Edge.SMALL).swap(0, 1), -1);
        GlassLeaders g = Edge.of(Edge.DARE);
        g.days(12);
        Edge.due("the other one leads no hour below hours", g.swap(0, 1), -1);
        Edge.due("of 24 hours", Edge.of(SHARED).swap(0, 1), -1);
    }

    static void promise45_hoursOfOthersAreNotChanged() {
        GlassLeaders g = Edge.of(SHARED + "person 0;", "go if hour=2 and leader<2;");
        Edge.due("2 leads hour 2", g.swap(0, 1), -1);
        Edge.due("2 and 1", g.swap(2, 1), -1);
        GlassLeaders three = Edge.of(SHARED + "person 0;wants 2 1 5;", "go if hour=2 and leader<2;");
        Edge.due("0 and 1 can't", three.swap(0, 1), -1);
        Edge.due("2 and 1 can", three.swap(2, 1), 201);
        Edge.due("0 and 2 can", three.swap(0, 2), 2);
    }

    static void promise45_whatFollowsIsAsItIs() {
        String line = "place;place;place;place end;way 0 1;way 1 2;way 2 3;person 1;person 1;hours 3;"
                + "wants 0 0 5;wants 1 0 5;";
        String law = "go if hour=0 and leader=1 or hour=1 and leader=0 or place=2;";
        Edge.due("the end as good as the beginning", Edge.of(line + "wants 0 3 5;wants 1 3 5;", law).swap(0, 1), -1);
        Edge.due("the end better", Edge.of(line + "wants 0 3 6;wants 1 3 6;", law).swap(0, 1), 1);
        Edge.due("the other way round", Edge.of(line + "wants 0 3 6;wants 1 3 6;", law).swap(1, 0), 100);
    }

    static void promise45_bothGainMoreThanNothing() {
        Edge.due("both gain five", Edge.of(Edge.DARE).swap(0, 1), 1);
        Edge.due("the other way round", Edge.of(Edge.DARE).swap(1, 0), 100);
        String law = "go if hour=4 and leader=1;rest if not [hour=4 and leader=1];";
        Edge.due("one to each", Edge.of(SHARED + "wants 0 1 1;wants 1 1 1;", law).swap(0, 1), 401);
        Edge.due("nothing to 0", Edge.of(SHARED + "wants 0 1 0;", law).swap(0, 1), -1);
        Edge.due("nothing to 1", Edge.of(SHARED + "wants 1 1 0;", law).swap(0, 1), -1);
        Edge.due("nothing to 1, who is first", Edge.of(SHARED + "wants 1 1 0;", law).swap(1, 0), -1);
        Edge.due("one by one", Edge.of(Edge.DARE + "wants 1 0 7;").swap(0, 1), 1);
        Edge.due("one not", Edge.of(Edge.DARE + "wants 1 0 8;").swap(0, 1), -1);
        Edge.due("the other one not", Edge.of(Edge.DARE + "wants 0 0 8;").swap(0, 1), -1);
    }

    static void promise45_theLastHours() {
        GlassLeaders g = Edge.of("place hut;place hut;place hut;way 0 1;way 1 2;person 0;person 0;wants 0 2 5;"
                + "wants 1 2 5;hours 24;", "go if to>place and [hour=22 and leader=1 or hour=23 and leader=0];");
        Edge.due("22 for 23", g.swap(0, 1), 2223);
        Edge.due("23 for 22", g.swap(1, 0), 2322);
    }

    static void promise45_byTheOnesHourThenTheOthers() {
        GlassLeaders g = Edge.of(SHARED, "go if hour=4 and leader=1;");
        Edge.due("4 for the other's first hour", g.swap(0, 1), 401);
        Edge.due("the one's first hour for 4", g.swap(1, 0), 104);
        g.turn(2, 1);
        Edge.due("hours that are told count", g.swap(1, 0), 104);
        g.turn(1, 0);
        Edge.due("who leads hour 1 now", g.swap(1, 0), 204);
    }

    // ---------------------------------------------------------------------------- 46: vote

    static void promise46_noLand() {
        Edge.needsLand(g -> g.vote());
    }

    static void promise46_oneAloneAndAnEnd() {
        Edge.due("one votes alone", Edge.of(ROAD).vote(), 8);
        Edge.due("it has ended", Edge.of("place end;person 0;person 0;wants 0 0 3;wants 1 0 4;").vote(), 7);
    }

    static void promise46_ofAlikeOnesTheFirst() {
        String two = "place;place;place;way 0 1;way 0 2;hours 1;person 0;person 0;wants 0 2 5;wants 1 1 9;";
        Edge.due("one each: the first", Edge.of(two).vote(), 9);
        Edge.due("two for the second", Edge.of(two + "person 0;wants 2 2 5;").vote(), 10);
        Edge.due("two each of four", Edge.of(two + "person 0;wants 2 2 5;person 0;wants 3 1 1;").vote(), 10);
        Edge.due("rest is the first of three", Edge.of(two + "person 0;wants 2 0 2;").vote(), 2);
        Edge.due("rest is not lawful", Edge.of(two, GOING).vote(), 9);
        Edge.due("the last way of 24", Edge.of("place;place;place;person 0;" + Edge.times(23, "way 0 1;")
                + "way 0 2;wants 0 2 9;hours 1;").vote(), 9);
    }

    static void promise46_whateverTheirKinds() {
        GlassLeaders g = Edge.of("place;place;way 0 1;hours 1;person 0;person 0;wants 0 1 5;wants 1 1 5;");
        for (int kind = 0; kind <= 5; kind++) {
            g.kind(0, kind);
            g.kind(1, kind);
            Edge.due("kinds " + kind, g.vote(), 10);
        }
    }

    static void promise46_lawfulToWhoLeads() {
        String two = "place;place;way 0 1;hours 1;person 0;person 0;wants 0 1 5;wants 1 1 5;";
        Edge.due("who leads may not go", Edge.of(two, "go if leader=1;").vote(), 0);
        Edge.due("who leads may", Edge.of(two, "go if leader=0;").vote(), 10);
    }

    static void promise46_forcedRest() {
        String two = "place;place;way 0 1;hours 1;person 0;person 0;wants 0 1 5;wants 1 1 5;";
        Edge.due("no other move", Edge.of(two, "go if 1=2;rest if 1=2;").vote(), 0);
    }

    static void promise46_allBeingVotedOnFromThenOn() {
        GlassLeaders g = Edge.of(Edge.DARE + "person 0;wants 2 3 8;");
        Edge.due("1 is outvoted in hour 1, so all go", g.vote(), 24);
        Edge.due("as it is", g.all(), 6);
    }

    // ---------------------------------------------------------------------------- 47: needs

    static void promise47_noLand() {
        Edge.needsLand(g -> g.needs());
    }

    static void promise47_oneIsTheLeast() {
        Edge.due("there at the beginning", Edge.of("place end;person 0;").needs(), 1);
        Edge.due("one hour", Edge.of(ROAD).needs(), 1);
        Edge.due("by huts", Edge.of("place;place hut;place end;way 0 1;way 1 2;person 0;wants 0 2 9;").needs(), 1);
    }

    static void promise47_twelveIsTheMost() {
        StringBuilder line = new StringBuilder(Edge.times(11, "place;"));
        line.append("place end;person 0;hours 24;wants 0 11 9;store 1;");
        for (int place = 0; place < 11; place++) {
            line.append("way ").append(place).append(' ').append(place + 1).append(';');
        }
        Edge.due("eleven hours", Edge.of(line.toString()).needs(), 11);
        Edge.due("twelve hours", Edge.of(line.toString(), "go if hour>0;").needs(), 12);
        Edge.due("thirteen hours", Edge.of(line.toString(), "go if hour>1;").needs(), -1);
    }

    static void promise47_noneNotByTwelve() {
        Edge.due("no end", Edge.of("place;person 0;").needs(), -1);
        Edge.due("nobody goes", Edge.of(LINE, "go if 1=2;").needs(), -1);
        Edge.due("too few hours", Edge.of(LINE + "hours 1;").needs(), -1);
    }

    static void promise47_forSure() {
        Edge.due("a chance is left", Edge.of(ROAD + "hours 2;snow 0 0 1 1;").needs(), -1);
        Edge.due("the last hour is without snow", Edge.of(ROAD + "hours 3;snow 0 0 1 15;").needs(), 3);
        Edge.due("closed for sure, then open", Edge.of(ROAD + "hours 3;snow 0 0 0 16;", GOING).needs(), 2);
    }

    static void promise47_whateverTheStoreIs() {
        for (int store = 1; store <= 12; store++) {
            Edge.due("store " + store, Edge.of(LINE + "store " + store + ";").needs(), 2);
        }
    }

    static void promise47_theLawAsksForStoresAsTheyAreThen() {
        Edge.due("at first there are three", Edge.of(LINE + "store 12;", "go if stores<3;").needs(), 2);
        Edge.due("four at the beginning", Edge.of(LINE + "store 1;", "go if stores>2;").needs(), 4);
        Edge.due("a hut fills up that store", Edge.of("place;place hut;place end;way 0 1;way 1 2;person 0;wants 0 2 9;"
                + "store 1;", "go if place=0 or stores=5;rest if place=0;").needs(), 5);
    }

    static void promise47_allLeadAsTheyDo() {
        GlassLeaders g = Edge.of(LINE);
        g.kind(0, 3);
        Edge.due("who rests it away", g.needs(), -1);
        g.kind(0, 5);
        g.plan(1, 1);
        g.plan(2, 2);
        Edge.due("by a plan", g.needs(), 3);
    }

    static void promise47_theStoreStaysAsItIs() {
        GlassLeaders g = Edge.full();
        g.needs();
        Edge.due("all", Edge.everything(g), Edge.everything(Edge.full()));
    }

    // ---------------------------------------------------------------------------- 48: image

    static void promise48_threeAndNoMore() {
        GlassLeaders g = Edge.of(Edge.SMALL);
        for (int i = 1; i <= 3; i++) {
            Edge.due("image " + i, g.image(), i);
        }
        Edge.due("a fourth", g.image(), -1);
        Edge.due("how many there are", g.count(1), 3);
        g.on();
        Edge.due("a third again", g.image(), 3);
    }

    static void promise48_anImageTooManyDoesNothing() {
        GlassLeaders g = Edge.of(Edge.SMALL);
        for (int i = 1; i <= 4; i++) {
            g.days(i);
            g.image();
        }
        g.on();
        Edge.due("the third image", g.days(9), 3);
    }

    static void promise48_withoutALand() {
        GlassLeaders g = new GlassLeaders();
        Edge.due("image", g.image(), 1);
        Edge.due("how many there are", g.count(1), 1);
    }

    static void promise48_allStaysAsItIs() {
        GlassLeaders g = Edge.full();
        g.image();
        g.on();
        Edge.due("all", Edge.everything(g), Edge.everything(Edge.full()));
    }

    static void promise48_allButLandLawTapeAndFault() {
        GlassLeaders g = Edge.full();
        g.image();
        g.kind(0, 5);
        g.kind(1, 4);
        for (int hour = 0; hour < 24; hour++) {
            g.plan(hour, 3);
            g.turn(hour, hour % 2);
        }
        g.days(12);
        g.clear();
        g.row(1);
        g.run(77);
        g.on();
        Edge.due("all", Edge.everything(g), Edge.everything(Edge.full()));
    }

    static void promise48_landLawTapeAndFaultAreNotKept() {
        GlassLeaders g = Edge.emptied(Edge.of(Edge.SMALL));
        g.image();
        Edge.law(g, "go if 1=1;go if 1=1;");
        Edge.due("fault", g.fault(), -1);
        Edge.feed(g, "go x");
        g.law(4);
        Edge.feed(g, "place;");
        g.on();
        Edge.due("rules", g.told(8), 2);
        Edge.due("bytes", g.count(2), 20);
        Edge.due("fault behind it", g.fault(), 3);
        Edge.due("places", g.told(0), 3);
    }

    // ---------------------------------------------------------------------------- 49: on

    static void promise49_noneThere() {
        GlassLeaders g = Edge.full();
        g.on();
        g.on();
        GlassLeaders twin = Edge.full();
        twin.on();
        twin.on();
        Edge.due("on", g.on(), -1);
        Edge.due("all stays", Edge.everything(g), Edge.everything(twin));
        Edge.due("of a new object", new GlassLeaders().on(), -1);
        Edge.due("no refusal", g.status(2) + g.status(3), 0);
    }

    static void promise49_theLatestFirst() {
        GlassLeaders g = new GlassLeaders();
        for (int i = 1; i <= 3; i++) {
            g.days(i + 1);
            g.image();
        }
        g.days(12);
        for (int i = 3; i >= 1; i--) {
            Edge.due("how many are left", g.on(), i - 1);
            Edge.due("days as in image " + i, g.days(9), i + 1);
        }
    }

    static void promise49_whatIsAskedThenIsAsThen() {
        GlassLeaders g = Edge.of(Edge.SMALL);
        g.image();
        g.kind(0, 3);
        Edge.due("resting it away", g.value(0, 0, 0, 3), -3);
        g.on();
        Edge.due("ahead", g.value(0, 0, 0, 3), 9);
    }

    static void promise49_theJourneyIsAsThen() {
        GlassLeaders g = Edge.of(Edge.SMALL);
        g.image();
        g.run(1);
        g.image();
        g.kind(0, 3);
        g.run(1);
        Edge.due("the later one", g.ended(), 0);
        g.on();
        Edge.due("the earlier one", g.ended(), 1);
        Edge.due("as long as it was", g.was(2, 0), -1);
        g.on();
        Edge.due("none", g.ended(), -1);
        Edge.due("nowhere", g.was(0, 0), -1);
    }

    static void promise49_aJourneyOfTwentyFourHoursIsAsThen() {
        GlassLeaders g = Edge.of("place hut;place;way 0 1;person 0;hours 24;", GOING);
        Edge.due("hours", g.run(0), 24);
        g.image();
        Edge.ruled(g, "go if hour=22;");
        g.kind(0, 5);
        g.plan(22, 1);
        Edge.due("another journey", g.run(0), 24);
        Edge.due("its last place", g.was(24, 0), 1);
        Edge.due("its last move", g.was(23, 2), 0);
        g.on();
        int[][] due = {{0, 12, 1}, {1, 11, 1}};
        for (int hour = 0; hour < 24; hour++) {
            for (int what = 0; what <= 2; what++) {
                Edge.due("was " + hour + " " + what, g.was(hour, what), due[hour % 2][what]);
            }
        }
        Edge.due("the last place", g.was(24, 0), 0);
        Edge.due("the last stores", g.was(24, 1), 12);
    }

    // ---------------------------------------------------------------------------- 50: status

    static void promise50_noneForOthers() {
        GlassLeaders g = new GlassLeaders();
        for (int what : new int[] {-1, 4, Integer.MIN_VALUE, Integer.MAX_VALUE}) {
            Edge.due("status " + what, g.status(what), -1);
        }
    }

    static void promise50_eachReasonHasItsCount() {
        GlassLeaders g = Edge.of(Edge.SMALL);
        GlassLeaders bare = new GlassLeaders();
        for (int i = 1; i <= 3; i++) {
            Edge.reason(g, x -> x.kind(9, 0));
            Edge.reason(g, x -> x.snow(9, 0));
            Edge.reason(g, x -> x.told(9));
            Edge.reason(bare, x -> x.all());
            Edge.due("IndexOutOfBounds", g.status(0), i);
            Edge.due("NoSuchElement", g.status(1), i);
            Edge.due("IllegalArgument", g.status(2), i);
            Edge.due("IllegalState", g.status(3), 0);
            Edge.due("IllegalState without a land", bare.status(3), i);
        }
    }

    static void promise50_theLastOfFiveHundredAndTwelveCalls() {
        GlassLeaders g = new GlassLeaders();
        for (int i = 0; i < 511; i++) {
            Edge.reason(g, x -> x.told(-1));
        }
        Edge.due("status", g.status(2), 511);
    }

    static void promise50_noImageKeepsIt() {
        GlassLeaders g = Edge.of(Edge.SMALL);
        g.image();
        Edge.reason(g, x -> x.told(9));
        g.on();
        Edge.due("status", g.status(2), 1);
    }

    static void promise50_neitherLandNorLawSetsItBack() {
        GlassLeaders g = new GlassLeaders();
        Edge.reason(g, x -> x.all());
        Edge.reason(g, x -> x.told(9));
        Edge.land(g, Edge.SMALL);
        Edge.law(g, "go if 1=1;");
        Edge.due("IllegalState", g.status(3), 1);
        Edge.due("IllegalArgument", g.status(2), 1);
    }

    static void promise50_anAnswerOfNoneIsNoRefusal() {
        GlassLeaders g = Edge.full();
        g.on();
        g.on();
        g.on();
        g.status(9);
        g.count(9);
        g.give();
        g.holds();
        for (int i = 0; i < 30; i++) {
            g.feed(0, 0, 0, 0, 0);
            g.row(0);
            g.image();
        }
        for (int what = 0; what < 4; what++) {
            Edge.due("status " + what, g.status(what), 0);
        }
    }

    // ---------------------------------------------------------------------------- 51: count

    static void promise51_noneForOthers() {
        GlassLeaders g = Edge.full();
        for (int what : new int[] {-1, 4, Integer.MIN_VALUE, Integer.MAX_VALUE}) {
            Edge.due("count " + what, g.count(what), -1);
        }
        Edge.due("no refusal", g.status(2), 0);
    }

    static void promise51_nothing() {
        GlassLeaders g = new GlassLeaders();
        for (int what = 0; what < 4; what++) {
            Edge.due("count " + what, g.count(what), 0);
        }
    }

    static void promise51_asMuchAsCanBe() {
        GlassLeaders g = Edge.of(Edge.SMALL);
        for (int hour = 0; hour < 24; hour++) {
            g.turn(hour, hour % 2);
            g.row(0);
        }
        g.image();
        g.image();
        g.image();
        Edge.feed(g, Edge.times(600, "x"));
        int[] due = {24, 3, 600, 24};
        for (int what = 0; what < 4; what++) {
            Edge.due("count " + what, g.count(what), due[what]);
        }
    }

    static void promise51_hoursOfWhichItIsTold() {
        GlassLeaders g = Edge.of(Edge.SMALL);
        g.turn(0, 0);
        Edge.due("hour 0", g.count(3), 1);
        g.turn(23, 1);
        Edge.due("hour 23", g.count(3), 2);
        g.turn(0, 1);
        Edge.due("told again", g.count(3), 2);
        g.turn(0, -1);
        Edge.due("by turns again", g.count(3), 1);
        g.turn(1, -1);
        Edge.due("by turns still", g.count(3), 1);
    }

    public static void main(String[] args) {
        Edge.runAll(GlassLeadersEdgesOfChances.class, 35, 51);
    }
}
