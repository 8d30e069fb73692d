/** Promises 1 to 5 at their edges: the tape, lands and laws as texts, their faults. One test a sentence. */
public final class GlassLeadersEdgesOfTexts {
    private static final String TWO = "place;place;person 0;way 0 1;";

    private static void stands(String land, int places) {
        GlassLeaders g = new GlassLeaders();
        Edge.due("land [" + land + "]", Edge.land(g, land), places);
        Edge.due("fault of land [" + land + "]", g.fault(), -1);
    }

    private static void fails(String land, int fault, int at) {
        GlassLeaders g = new GlassLeaders();
        Edge.due("land [" + land + "]", Edge.land(g, land), fault - 10);
        Edge.due("fault of land [" + land + "]", g.fault(), at);
        Edge.due("places of a land with a fault", g.told(0), 0);
    }

    private static void lawStands(String law, int rules) {
        GlassLeaders g = new GlassLeaders();
        Edge.due("law [" + law + "]", Edge.law(g, law), rules);
        Edge.due("fault of law [" + law + "]", g.fault(), -1);
    }

    private static void lawFails(String law, int fault, int at) {
        GlassLeaders g = new GlassLeaders();
        Edge.due("law [" + law + "]", Edge.law(g, law), fault - 10);
        Edge.due("fault of law [" + law + "]", g.fault(), at);
        Edge.due("rules of a law with a fault", g.told(8), 0);
    }

    /** Whether a condition holds of resting at place 0, hour 0, with 5 stores, 7 hours left, by whom 0 leads. */
    private static void says(String condition, boolean due) {
        GlassLeaders g = Edge.of("place;place;way 0 1;person 0;hours 7;store 5;", "rest if " + condition + ";");
        Edge.due("[" + condition + "]", g.next(0, 0, 5), due ? 3 : 2);
    }

    /** All of an object with an empty tape but for its fault, which stands first. */
    private static String butFault(GlassLeaders g) {
        String all = Edge.everything(g);
        return all.substring(all.indexOf("ended"));
    }

    // ---------------------------------------------------------------------------- 1: a new object

    static void promise01_noLand() {
        GlassLeaders g = new GlassLeaders();
        for (int what = 0; what <= 7; what++) {
            Edge.due("told " + what, g.told(what), 0);
        }
        Edge.due("reason for refusing all", Edge.reason(g, x -> x.all()), Edge.STATE);
    }

    static void promise01_noLaw() {
        GlassLeaders g = new GlassLeaders();
        Edge.due("rules", g.told(8), 0);
        Edge.land(g, "place;place;way 0 1;person 0;");
        Edge.due("nothing is forbidden by no law", g.next(0, 0, 12), 3);
    }

    static void promise01_nothingOnTheTape() {
        Edge.due("bytes", new GlassLeaders().count(2), 0);
    }

    static void promise01_nothingToldAndNothingDone() {
        GlassLeaders g = new GlassLeaders();
        Edge.due("rows", g.count(0), 0);
        Edge.due("images", g.count(1), 0);
        Edge.due("hours told", g.count(3), 0);
        Edge.due("fault", g.fault(), -1);
        Edge.due("ended", g.ended(), -1);
        Edge.due("was", g.was(0, 0), -1);
        for (int what = 0; what < 4; what++) {
            Edge.due("status " + what, g.status(what), 0);
        }
    }

    static void promise01_oneObjectKnowsNothingOfAnother() {
        GlassLeaders one = Edge.full();
        GlassLeaders other = new GlassLeaders();
        Edge.due("a new object beside another", Edge.everything(other), Edge.everything(new GlassLeaders()));
        Edge.due("the other one", Edge.everything(one), Edge.everything(Edge.full()));
    }

    static void promise01_noneIsOneBelowNothing() {
        Edge.due("NONE", GlassLeaders.NONE, -1);
    }

    // ---------------------------------------------------------------------------- 2: feed

    static void promise02_twentyBytesCome() {
        Edge.due("bytes", new GlassLeaders().feed(0, 0, 0, 0, 0), 20);
    }

    static void promise02_ofEachNumberTheHighestFirst() {
        for (int at = 0; at < 20; at++) {
            int[] five = {0x20202020, 0x20202020, 0x20202020, 0x20202020, 0x20202020};
            five[at / 4] ^= (' ' ^ 'x') << 24 - at % 4 * 8;
            GlassLeaders g = new GlassLeaders();
            g.feed(five[0], five[1], five[2], five[3], five[4]);
            Edge.due("a land with a wrong word at " + at, g.land(20), -9);
            Edge.due("its fault", g.fault(), at);
        }
    }

    static void promise02_aByteOf255And128And0IsAByte() {
        for (int sign : new int[] {255, 128, 127, 31, 0}) {
            for (int at = 0; at < 4; at++) {
                GlassLeaders g = new GlassLeaders();
                g.feed(0x20202020 ^ (' ' ^ sign) << 24 - at * 8, 0x20202020, 0x20202020, 0x20202020, 0x20202020);
                Edge.due("a land with the byte " + sign + " at " + at, g.land(20), -9);
                Edge.due("its fault", g.fault(), at);
            }
        }
    }

    static void promise02_sixHundredBytesAreTaken() {
        GlassLeaders g = new GlassLeaders();
        for (int i = 1; i <= 30; i++) {
            Edge.due("feed " + i, g.feed(-1, -1, -1, -1, -1), 20 * i);
        }
        Edge.due("bytes", g.count(2), 600);
    }

    static void promise02_moreThanSixHundredAreNot() {
        GlassLeaders g = new GlassLeaders();
        Edge.feed(g, Edge.times(600, " "));
        Edge.due("a feed too many", g.feed(0, 0, 0, 0, 0), -1);
        Edge.due("another one", g.feed(0, 0, 0, 0, 0), -1);
    }

    static void promise02_whatIsTooMuchDoesNothing() {
        GlassLeaders g = new GlassLeaders();
        String land = Edge.times(580, " ") + "place;person 0;     ";
        Edge.feed(g, land);
        g.feed(-1, -1, -1, -1, -1);
        Edge.due("bytes", g.count(2), 600);
        for (int what = 0; what < 4; what++) {
            Edge.due("status " + what, g.status(what), 0);
        }
        Edge.due("the land that was fed", g.land(600), 1);
    }

    static void promise02_anEmptiedTapeTakesSixHundredAgain() {
        GlassLeaders g = new GlassLeaders();
        Edge.feed(g, Edge.times(600, " "));
        g.land(600);
        Edge.due("the first feed of an emptied tape", g.feed(0, 0, 0, 0, 0), 20);
        Edge.due("as many as fit", Edge.feed(g, Edge.times(580, " ")), 600);
    }

    // ---------------------------------------------------------------------------- 3: land, how much of the tape

    static void promise03_lessThanNothingOrMoreThanTheTapeIsRefused() {
        int bytes = Edge.full().count(2);
        Edge.due("bytes", bytes, 40);
        Edge.refusesAll(Edge.ARGUMENT, Edge::full, (g, n) -> g.land(n), -1, bytes + 1);
        Edge.refusesAll(Edge.ARGUMENT, GlassLeaders::new, (g, n) -> g.land(n), -1, 1);
    }

    static void promise03_nothingOfTheTapeIsALandOfNothing() {
        GlassLeaders g = new GlassLeaders();
        Edge.feed(g, "place;person 0;");
        Edge.due("land of nothing", g.land(0), -6);
        Edge.due("its fault", g.fault(), 0);
        Edge.due("bytes", g.count(2), 0);
        Edge.due("land of an empty tape", new GlassLeaders().land(0), -6);
    }

    static void promise03_allOfTheTapeIsTaken() {
        GlassLeaders g = new GlassLeaders();
        Edge.feed(g, "place;person 0;lost7;");
        Edge.due("land of all forty bytes", g.land(40), 1);
        Edge.due("lost", g.told(5), 7);
    }

    static void promise03_sixHundredBytesAreALand() {
        GlassLeaders g = new GlassLeaders();
        Edge.feed(g, "place;person 0;" + Edge.times(577, " ") + "hours 7;");
        Edge.due("land of 600 bytes", g.land(600), 1);
        Edge.due("what its last bytes say", g.told(3), 7);
    }

    static void promise03_onlyTheFirstBytesAreTheLand() {
        GlassLeaders g = new GlassLeaders();
        Edge.feed(g, "place;person 0;place;place;");
        Edge.due("land", g.land(15), 1);
        Edge.due("places", g.told(0), 1);
        GlassLeaders h = new GlassLeaders();
        Edge.feed(h, "place;person 0;");
        Edge.due("land less its last byte", h.land(14), -9);
        Edge.due("its fault", h.fault(), 14);
    }

    static void promise03_theTapeIsEmptyThen() {
        GlassLeaders g = new GlassLeaders();
        Edge.feed(g, "place;person 0;place;place;");
        g.land(15);
        Edge.due("bytes behind a land", g.count(2), 0);
        Edge.due("what is fed next", g.feed(0, 0, 0, 0, 0), 20);
        g.land(20);
        Edge.due("bytes behind a fault", g.count(2), 0);
    }

    static void promise03_howManyPlaces() {
        stands("place;person 0;", 1);
        stands(Edge.times(12, "place;") + "person 0;", 12);
    }

    // ---------------------------------------------------------------------------- 3: land, clauses

    static void promise03_sixtyClausesAndNoMore() {
        String sixty = "place;person 0;" + Edge.times(58, "lost 1;");
        stands(sixty, 1);
        fails(sixty + "lost 1;", 3, sixty.length());
        fails(sixty + "  lost 1;", 3, sixty.length() + 2);
        stands(sixty + "  ", 1);
    }

    static void promise03_twelvePlacesAndNoMore() {
        stands(Edge.times(12, "place;") + "person 0;", 12);
        fails(Edge.times(12, "place;") + "person 0; place;", 3, 82);
        fails(Edge.times(12, "place;") + "person 0;place end;", 3, 81);
    }

    static void promise03_twentyFourWaysAndNoMore() {
        String ways = "place;place;person 0;" + Edge.times(24, "way 0 1;");
        stands(ways, 2);
        fails(ways + "way 0 1;", 3, ways.length());
        fails(ways + "way 7 7;", 3, ways.length());
    }

    static void promise03_fivePersonsAndNoMore() {
        stands("place;" + Edge.times(5, "person 0;"), 1);
        fails("place;" + Edge.times(6, "person 0;"), 3, 6 + 45);
        fails("place;" + Edge.times(5, "person 0;") + "person 10;", 3, 6 + 45);
    }

    static void promise03_noPlaceOrNoPersonIsNoLand() {
        fails("", 4, 0);
        fails("     ", 4, 5);
        fails("place;", 4, 6);
        fails("person 0;", 4, 9);
        fails("hours 3; ", 4, 9);
    }

    static void promise03_anHourCostsZeroToNine() {
        Edge.due("least cost", Edge.of("place;person 0;").wants(0, -1), 0);
        Edge.due("greatest cost", Edge.of("place;person 9;").wants(0, -1), 9);
        fails("place;person 10;", 2, 13);
        fails("place;person -1;", 1, 13);
    }

    static void promise03_oneWantsZeroToNinetyNine() {
        Edge.due("least wish", Edge.of("place;person 0;wants 0 0 0;").wants(0, 0), 0);
        Edge.due("greatest wish", Edge.of("place;person 0;wants 0 0 99;").wants(0, 0), 99);
        Edge.due("without", Edge.of("place;person 0;").wants(0, 0), 0);
        fails("place;person 0;wants 0 0 100;", 2, 25);
    }

    static void promise03_hoursAreOneToTwentyFour() {
        Edge.due("least", Edge.of("place;person 0;hours 1;").told(3), 1);
        Edge.due("greatest", Edge.of("place;person 0;hours 24;").told(3), 24);
        Edge.due("without", Edge.of("place;person 0;").told(3), 12);
        fails("place;person 0;hours 0;", 2, 21);
        fails("place;person 0;hours 25;", 2, 21);
    }

    static void promise03_theStoreIsOneToTwelve() {
        Edge.due("least", Edge.of("place;person 0;store 1;").told(4), 1);
        Edge.due("greatest", Edge.of("place;person 0;store 12;").told(4), 12);
        Edge.due("without", Edge.of("place;person 0;").told(4), 12);
        fails("place;person 0;store 0;", 2, 21);
        fails("place;person 0;store 13;", 2, 21);
    }

    static void promise03_lostIsZeroToNinetyNine() {
        Edge.due("least", Edge.of("place;person 0;lost 0;").told(5), 0);
        Edge.due("greatest", Edge.of("place;person 0;lost 99;").told(5), 99);
        Edge.due("without", Edge.of("place;person 0;").told(5), 0);
        fails("place;person 0;lost 100;", 2, 20);
    }

    static void promise03_theStartIsAPlaceToldAhead() {
        Edge.due("first", Edge.of("place;place;person 0;start 0;").told(6), 0);
        Edge.due("last", Edge.of("place;place;person 0;start 1;").told(6), 1);
        Edge.due("without", Edge.of("place;place;person 0;").told(6), 0);
        fails("place;place;person 0;start 2;", 2, 27);
        fails("place;start 1;place;person 0;", 2, 12);
        fails("start 0;place;person 0;", 2, 6);
        Edge.due("last of twelve", Edge.of(Edge.times(12, "place;") + "person 0;start 11;").told(6), 11);
    }

    static void promise03_aWayJoinsTwoPlacesToldAhead() {
        stands("place;place;person 0;way 0 1;", 2);
        stands("place;place;person 0;way 1 0;", 2);
        fails("place;way 0 1;place;person 0;", 2, 12);
        fails("place;way 1 0;place;person 0;", 2, 10);
        fails("way 0 1;place;place;person 0;", 2, 4);
        stands(Edge.times(12, "place;") + "person 0;way 11 10;", 12);
        fails(Edge.times(12, "place;") + "person 0;way 11 12;", 2, 88);
    }

    static void promise03_aWayDoesNotLeadBackToItsPlace() {
        fails("place;place;person 0;way 0 0;", 2, 27);
        fails("place;place;person 0;way 1 1;", 2, 27);
    }

    static void promise03_aWayLeadsEitherWay() {
        GlassLeaders g = Edge.of("place;place;person 0;way 1 0;");
        Edge.due("from its one place", g.next(0, 0, 12), 3);
        Edge.due("from its other place", g.next(1, 0, 12), 3);
    }

    static void promise03_twoWaysMayJoinTheSamePlaces() {
        Edge.due("moves", Edge.of("place;place;person 0;way 0 1;way 1 0;").next(0, 0, 12), 7);
    }

    static void promise03_snowIsOfAWayToldAhead() {
        stands(TWO + "snow 0 0 0 1;", 2);
        fails(TWO + "snow 1 0 0 1;", 2, 34);
        fails("place;place;person 0;snow 0 0 0 1;way 0 1;", 2, 26);
        Edge.due("of the last of 24 ways",
                Edge.of("place;place;person 0;" + Edge.times(24, "way 0 1;") + "snow 23 0 0 5;").snow(23, 0), 5);
    }

    static void promise03_snowIsOfHoursZeroToTwentyThree() {
        stands(TWO + "snow 0 0 0 1;", 2);
        stands(TWO + "snow 0 23 23 1;", 2);
        fails(TWO + "snow 0 24 24 1;", 2, 36);
        fails(TWO + "snow 0 23 24 1;", 2, 39);
    }

    static void promise03_snowDoesNotEndBeforeItBegins() {
        stands(TWO + "snow 0 5 5 1;", 2);
        stands(TWO + "snow 0 5 6 1;", 2);
        fails(TWO + "snow 0 5 4 1;", 2, 38);
    }

    static void promise03_chancesOfSnowAreOneToSixteen() {
        Edge.due("least", Edge.of(TWO + "snow 0 5 5 1;").snow(0, 5), 1);
        Edge.due("greatest", Edge.of(TWO + "snow 0 5 5 16;").snow(0, 5), 16);
        fails(TWO + "snow 0 5 5 0;", 2, 40);
        fails(TWO + "snow 0 5 5 17;", 2, 40);
    }

    static void promise03_tenHoursAreSnowyAndNoMore() {
        stands(TWO + "snow 0 0 9 1;", 2);
        fails(TWO + "snow 0 0 10 1;", 2, 38);
        stands(TWO + "snow 0 0 8 1;snow 0 23 23 1;", 2);
        fails(TWO + "snow 0 0 8 1;snow 0 22 23 1;", 2, 52);
        fails(TWO + "snow 0 0 9 1;snow 0 23 23 1;", 2, 52);
    }

    static void promise03_anHourIsSnowyOnceWhateverTheWay() {
        stands(TWO + "way 0 1;snow 0 0 9 1;snow 1 0 9 16;snow 0 4 5 2;", 2);
        fails(TWO + "way 0 1;snow 0 0 9 1;snow 1 9 10 1;", 2, 59);
    }

    static void promise03_hoursFromTheLastOnAreSnowyToo() {
        fails(TWO + "hours 1;snow 0 1 11 1;", 2, 46);
        stands(TWO + "hours 1;snow 0 1 10 1;", 2);
    }

    static void promise03_anEleventhSnowyHourIsToldBeforeAWrongChance() {
        fails(TWO + "snow 0 0 10 17;", 2, 38);
        fails(TWO + "snow 0 0 10;", 2, 38);
    }

    static void promise03_wantsAreOfAPersonAndAPlaceToldAhead() {
        String all = Edge.times(12, "place;") + Edge.times(5, "person 0;");
        Edge.due("of the last ones", Edge.of(all + "wants 4 11 6;").wants(4, 11), 6);
        fails(all + "wants 5 11 6;", 2, all.length() + 6);
        fails(all + "wants 4 12 6;", 2, all.length() + 8);
        fails("place;wants 0 0 5;person 0;", 2, 12);
        fails("person 0;wants 0 0 5;place;", 2, 17);
    }

    static void promise03_theLastCountsOfWantsAndSnow() {
        GlassLeaders g = Edge.of(TWO + "person 0;wants 0 1 9;wants 0 1 0;wants 1 1 4;wants 1 0 3;"
                + "snow 0 2 4 7;snow 0 4 5 2;snow 0 2 2 16;");
        Edge.due("wants", g.wants(0, 1), 0);
        Edge.due("of another one", g.wants(1, 1), 4);
        Edge.due("of another place", g.wants(1, 0), 3);
        Edge.due("snow, told again", g.snow(0, 2), 16);
        Edge.due("snow, told once", g.snow(0, 3), 7);
        Edge.due("snow, the last hour told again", g.snow(0, 4), 2);
    }

    static void promise03_theLastCountsOfHoursStoreLostAndStart() {
        GlassLeaders g = Edge.of("place;place;person 0;hours 24;store 2;lost 9;start 1;"
                + "hours 1;store 1;lost 0;start 0;");
        Edge.due("hours", g.told(3), 1);
        Edge.due("store", g.told(4), 1);
        Edge.due("lost", g.told(5), 0);
        Edge.due("start", g.told(6), 0);
    }

    static void promise03_aPlaceMayBeAHutOrAnEndNotBoth() {
        Edge.due("a hut", Edge.of("place hut;person 0;store 1;").value(0, 0, 0, 1), 0);
        Edge.due("an end", Edge.of("place end;person 0;").next(0, 0, 12), 0);
        fails("place hut end;person 0;", 1, 10);
        fails("place end end;person 0;", 1, 10);
        fails("place huts;person 0;", 1, 6);
        fails("hut;person 0;", 1, 0);
    }

    static void promise03_digitsAsManyAsStandThere() {
        Edge.due("led by noughts", Edge.of("place;person 0;hours 0000000000000000000000007;").told(3), 7);
        fails("place;person 0;hours 77;", 2, 21);
        fails("place;person 0;hours 4294967303;", 2, 21);
        fails("place;person 0;hours 18446744073709551623;", 2, 21);
        fails("place;person 0;lost 2147483648;", 2, 20);
        fails("place;person 0;start 4294967296;", 2, 21);
        fails("place;place;person 0;way 0 4294967297;", 2, 27);
        fails("place;place;way 01;person 0;", 1, 18);
    }

    static void promise03_wordsAreSmallLettersAsManyAsStandThere() {
        fails("placehut;person 0;", 1, 0);
        fails("placez;person 0;", 1, 0);
        fails("placea;person 0;", 1, 0);
        fails("zlace;person 0;", 1, 0);
        fails("placd;person 0;", 1, 0);
        fails("place;persona 0;", 1, 6);
        fails("place;perso 0;", 1, 6);
        fails("Place;person 0;", 1, 0);
        fails("place`;person 0;", 1, 5);
        fails("place{;person 0;", 1, 5);
        fails("place;person 0/;", 1, 14);
        fails("place;person 0:;", 1, 14);
        stands("place;person0;", 1);
    }

    static void promise03_blanksStandAheadOfAllAndAtTheEnd() {
        stands("   place   hut   ;   person   0   ;   ", 1);
        stands("place;person 0;", 1);
        fails("pla ce;person 0;", 1, 0);
        fails("place;person 0;hours 1 2;", 1, 23);
        fails("place;" + (char) 9 + "person 0;", 1, 6);
        fails("place;person 0;\n", 1, 15);
        fails("place;person 0;" + (char) 31, 1, 15);
        fails("place;person 0;!", 1, 15);
    }

    static void promise03_eachClauseIsClosed() {
        fails("place;person 0", 1, 14);
        fails("place person 0;", 1, 6);
        fails("place;;person 0;", 1, 6);
        fails(";place;person 0;", 1, 0);
        fails("place;person 0;;", 1, 15);
    }

    // ---------------------------------------------------------------------------- 3: land, what it leaves

    static void promise03_anotherLandSetsAllBack() {
        GlassLeaders g = Edge.emptied(Edge.full());
        Edge.land(g, Edge.SMALL);
        Edge.due("all behind the same land", Edge.everything(g), Edge.everything(Edge.of(Edge.SMALL)));
    }

    static void promise03_nothingOfTheOldLandIsLeft() {
        String large = Edge.times(11, "place hut;") + "place end;" + Edge.times(5, "person 9;")
                + Edge.times(24, "way 0 1;") + "snow 23 0 9 16;wants 0 0 99;hours 24;store 5;lost 9;start 11;";
        GlassLeaders g = Edge.of(large, "rest if 1=2;");
        g.all();
        g.run(3);
        Edge.land(g, "place;place;person 0;way 0 1;");
        GlassLeaders fresh = Edge.of("place;place;person 0;way 0 1;");
        Edge.due("snow", g.snow(0, 0), 0);
        Edge.due("snowy hours", g.told(7), 0);
        Edge.due("moves", g.next(1, 0, 12), 3);
        Edge.due("all", Edge.everything(g), Edge.everything(fresh));
    }

    static void promise03_nothingIsLeftOfALandBeforeTheLast() {
        String large = Edge.times(2, "place hut;") + Edge.times(2, "person 9;")
                + "way 0 1;snow 0 0 9 16;wants 0 0 99;hours 24;store 5;lost 9;start 1;";
        GlassLeaders g = Edge.of(large);
        GlassLeaders h = Edge.of(large);
        Edge.land(g, "place;place;person 0;way 0 1;");
        Edge.land(h, large + "x");
        for (GlassLeaders again : new GlassLeaders[] {g, h}) {
            Edge.land(again, "place;place;person 0;way 0 1;");
            Edge.due("snow", again.snow(0, 0), 0);
            Edge.due("all", Edge.everything(again), Edge.everything(Edge.of("place;place;person 0;way 0 1;")));
        }
    }

    static void promise03_nothingWorkedOutForTheOldLandIsLeft() {
        GlassLeaders g = Edge.of("place;place;place;way 0 1;way 0 2;person 0;wants 0 1 5;hours 3;");
        Edge.due("alone", g.alone(0), 5);
        Edge.due("all", g.all(), 5);
        Edge.land(g, "place;place;place;way 1 2;way 0 2;person 0;wants 0 1 6;hours 3;start 2;");
        Edge.due("alone in another land", g.alone(0), 6);
        Edge.due("all in another land", g.all(), 6);
        Edge.due("stores needed", g.needs(), -1);
    }

    /** As much of all as there can be, with all the leaders there can be. */
    private static GlassLeaders most() {
        StringBuilder land = new StringBuilder(Edge.times(11, "place hut;"));
        land.append("place end;").append(Edge.times(5, "person 9;")).append(Edge.times(13, "way 0 1;"));
        for (int place = 0; place < 11; place++) {
            land.append("way ").append(place).append(' ').append(place + 1).append(';');
        }
        land.append("snow 23 14 23 8;snow 0 14 23 16;wants 4 11 99;wants 0 11 99;hours 24;lost 99;");
        Edge.due("bytes", land.length() <= 600 ? 1 : 0, 1);
        return Edge.of(land.toString(), Edge.times(10, "go if [[[[[[to>place]]]]]];"));
    }

    static void promise03_asMuchAsCanBeToldWithTheEndFirst() {
        StringBuilder land = new StringBuilder("place end;" + Edge.times(11, "place;"));
        land.append(Edge.times(5, "person 9;")).append(Edge.times(13, "way 10 11;"));
        for (int place = 0; place < 11; place++) {
            land.append("way ").append(place).append(' ').append(place + 1).append(';');
        }
        land.append("snow 23 0 8 16;snow 23 23 23 16;wants 4 0 99;hours 24;start 11;");
        GlassLeaders g = Edge.of(land.toString());
        Edge.due("by another of all the ways from 11 to 10", g.ever(11, 0, 12), 11);
        Edge.due("who wants to be there goes alone", g.alone(4), 0);
        Edge.due("voted on: all want it soon", g.vote(), (99 - 5 * 11 * 9) * (1L << 40));
        Edge.due("stores needed: by eleven 0 is as well off to rest and be lost", g.needs(), 12);
        Edge.due("there for sure", g.there(0), 1L << 40);
    }

    static void promise03_asMuchAsCanBeToldIsAsked() {
        GlassLeaders g = most();
        Edge.due("the shortest way, by the glass", g.ever(0, 0, 12), 11);
        Edge.due("not from where it is too late", g.ever(10, 24, 12), -1);
        Edge.due("stores needed", g.needs(), 1);
        Edge.due("who wants to be there goes alone", g.alone(4), 0);
        Edge.due("nobody gains by an hour", g.give(), -1);
        Edge.due("nor by a pact", g.holds(), -1);
        Edge.due("nor by a change", g.swap(4, 0), -1);
        Edge.due("in the last hour only who wants the end would go", g.mind(), 24);
        Edge.due("there for sure", g.there(0), 1L << 40);
        Edge.due("just at hour 11", g.arrives(11, 0), 1L << 40);
        Edge.due("not at hour 24", g.arrives(24, 2), 0);
        Edge.due("the end", g.visits(11), 1L << 40);
        Edge.due("all together", g.all(), (2 * 99 - 5 * 11 * 9) * (1L << 40));
        Edge.due("voted on", g.vote(), g.all());
        Edge.due("a rule less says as much", g.without(9, -1), 0);
        Edge.due("rounds", g.order(-1), 1234);
        Edge.due("turns", g.length(-1), 1);
        Edge.due("journey", g.run(1), 11);
    }

    static void promise03_kindsAreAsAtFirst() {
        GlassLeaders g = Edge.of("place;" + Edge.times(5, "person 0;"));
        for (int person = 0; person < 5; person++) {
            g.kind(person, 5);
        }
        Edge.land(g, "place;" + Edge.times(5, "person 0;"));
        for (int person = 0; person < 5; person++) {
            Edge.due("kind " + person, g.kind(person, 0), 0);
        }
    }

    static void promise03_planAndTurnsAreAsAtFirst() {
        GlassLeaders g = Edge.of(TWO);
        for (int hour = 0; hour < 24; hour++) {
            g.plan(hour, 1);
            g.turn(hour, 0);
        }
        g.days(12);
        Edge.land(g, TWO);
        for (int hour = 0; hour < 24; hour++) {
            Edge.due("plan " + hour, g.plan(hour, 0), 0);
            Edge.due("turn " + hour, g.turn(hour, -1), -1);
        }
        Edge.due("how long turns are", g.days(1), 1);
    }

    static void promise03_rowsJourneyLawAndImagesAreGone() {
        GlassLeaders g = Edge.emptied(Edge.full());
        Edge.land(g, Edge.SMALL);
        Edge.due("rows", g.count(0), 0);
        Edge.due("how the journey ended", g.ended(), -1);
        Edge.due("where it began", g.was(0, 0), -1);
        Edge.due("rules", g.told(8), 0);
        Edge.due("images", g.count(1), 0);
        Edge.due("on", g.on(), -1);
    }

    static void promise03_aFaultLeavesAllButTheTape() {
        String[] faulty = {"", "place;", "person 10;", Edge.times(13, "place;"), "place;person 0;hours 25;",
            "place;place end;person 9;way 0 1;snow 0 0 9 16;wants 0 0 9;hours 1;store 1;lost 1;start 1", "x"};
        for (String land : faulty) {
            GlassLeaders g = Edge.emptied(Edge.full());
            Edge.due("a land with a fault", Edge.land(g, land) < 0 ? 1 : 0, 1);
            GlassLeaders twin = Edge.emptied(Edge.full());
            Edge.due("all but tape and fault", butFault(g), butFault(twin));
        }
    }

    static void promise03_aFaultIsNoRefusal() {
        GlassLeaders g = new GlassLeaders();
        Edge.land(g, "x");
        for (int what = 0; what < 4; what++) {
            Edge.due("status " + what, g.status(what), 0);
        }
    }

    // ---------------------------------------------------------------------------- 4: law

    static void promise04_lessThanNothingOrMoreThanTheTapeIsRefused() {
        Edge.refusesAll(Edge.ARGUMENT, Edge::full, (g, n) -> g.law(n), -1, 41);
        Edge.refusesAll(Edge.ARGUMENT, Edge::bare, (g, n) -> g.law(n), -1, 21);
        Edge.refusesAll(Edge.ARGUMENT, GlassLeaders::new, (g, n) -> g.law(n), -1, 1);
    }

    static void promise04_nothingOfTheTapeIsALawOfNoRules() {
        GlassLeaders g = Edge.of(Edge.SMALL, "go if 1=2;");
        Edge.feed(g, "rest if 1=2;");
        Edge.due("law of nothing", g.law(0), 0);
        Edge.due("bytes", g.count(2), 0);
        Edge.due("rules", g.told(8), 0);
        Edge.due("moves", g.next(0, 0, 3), 7);
        lawStands("     ", 0);
    }

    static void promise04_allOfTheTapeIsTaken() {
        GlassLeaders g = new GlassLeaders();
        Edge.feed(g, "go if 1=2; go if 1=2");
        Edge.due("law less its last sign", g.law(20), -9);
        Edge.feed(g, "go if 1=2;go if 1=2;");
        Edge.due("law of all twenty bytes", g.law(20), 2);
    }

    static void promise04_sixHundredBytesAreALaw() {
        GlassLeaders g = Edge.of("place;place;way 0 1;person 0;");
        Edge.feed(g, "go if 1=" + Edge.times(590, "0") + "1;");
        Edge.due("law of 600 bytes", g.law(600), 1);
        Edge.due("what it says", g.next(0, 0, 1), 3);
        String sum = "rest if 1" + Edge.times(293, "+1");
        Edge.due("a long sum without its last sign", Edge.law(g, sum + "=2940"), -9);
        Edge.due("its fault", g.fault(), 600);
        Edge.due("a law of a long sum", Edge.law(g, sum + "=294;"), 1);
        Edge.due("the sum is right", g.next(0, 0, 1), 3);
    }

    static void promise04_onlyTheFirstBytesAreTheLaw() {
        GlassLeaders g = new GlassLeaders();
        Edge.feed(g, "go if 1=2;go if 1=2;rest if 1=2;");
        Edge.due("law", g.law(10), 1);
        Edge.due("rules", g.told(8), 1);
        Edge.due("bytes", g.count(2), 0);
    }

    static void promise04_tenRulesAndNoMore() {
        lawStands(Edge.times(10, "go if 1=1;"), 10);
        lawFails(Edge.times(11, "go if 1=1;"), 3, 100);
        lawFails(Edge.times(10, "go if 1=1;") + "  rest if 1=1;", 3, 102);
        lawStands(Edge.times(10, "go if 1=1;") + "  ", 10);
    }

    static void promise04_allTenRulesAreKeptTo() {
        GlassLeaders g = Edge.of("place;place;way 0 1;person 0;hours 24;");
        StringBuilder law = new StringBuilder();
        for (int hour = 0; hour < 10; hour++) {
            law.append("go if not hour=").append(hour).append(";");
        }
        Edge.ruled(g, law.toString());
        for (int hour = 0; hour < 12; hour++) {
            Edge.due("moves of hour " + hour, g.next(0, hour, 1), hour < 10 ? 1 : 3);
        }
    }

    static void promise04_numbersAreZeroToNineThousandNineHundredAndNinetyNine() {
        lawStands("go if 0=9999;", 1);
        lawFails("go if 0=10000;", 2, 8);
        lawFails("go if 10000=0;", 2, 6);
        lawStands("go if 0=00000009999;", 1);
        lawFails("go if 0=4294967296;", 2, 8);
        says("9999-1=9998", true);
        lawFails("go if 0=-1;", 1, 8);
    }

    static void promise04_sixAreOpenAtOneTimeAndNoSeventh() {
        lawStands("go if [[[[[[1=1]]]]]];", 1);
        lawFails("go if [[[[[[[1=1]]]]]]];", 3, 12);
        lawStands("go if ((((((1))))))=1;", 1);
        lawFails("go if (((((((1)))))))=1;", 3, 12);
        lawStands("go if 1=((((((1))))));", 1);
        lawFails("go if 1=(((((((1)))))));", 3, 14);
        lawStands("go if not not not not not not 1=1;", 1);
        lawFails("go if not not not not not not not 1=1;", 3, 30);
        lawFails("go if not [not [not [ (1)=1]]];", 3, 22);
        lawStands("go if not [not [[(1)=1]]];", 1);
    }

    static void promise04_whatIsClosedIsNotOpen() {
        lawStands("go if [1=1] and [1=1] and [1=1] and [1=1] and [1=1] and [1=1] and [1=1];", 1);
        lawStands("go if (1)+(1)+(1)+(1)+(1)+(1)+(1)=(7);", 1);
        lawStands("go if [[[[[[1=1]]]]]] or [[[[[[1=1]]]]]];", 1);
        lawFails("go if [[[[[[1=1] or [[1=1]]]]]]];", 3, 21);
    }

    static void promise04_aNotIsOpenTillItsConditionEnds() {
        lawStands("go if not 1=1 and not 1=1 and not 1=1 and not 1=1 and not 1=1 and not 1=1 and not 1=1;", 1);
        lawStands("go if not not not not not not 1=1 and not not not not not not 1=1;", 1);
        lawFails("go if not not not not not not (1)=1;", 3, 30);
        lawFails("go if not not not not not not 1=(1);", 3, 32);
        lawFails("go if not not not not not not [1=1];", 3, 30);
        lawStands("go if not not not not not not 1=1 and (1)=1;", 1);
        lawStands("go if not not not not not not 1=1 or [1=1];", 1);
        lawFails("go if [not not not not not 1=1 and not not not not not not 1=1];", 3, 55);
    }

    static void promise04_orIsWeakerThanAnd() {
        says("1=1 or 1=1 and 1=2", true);
        says("1=2 and 1=1 or 1=1", true);
        says("[1=1 or 1=1] and 1=2", false);
        says("1=2 or 1=2", false);
        says("1=2 or 1=2 or 1=1", true);
        says("1=1 and 1=1 and 1=2", false);
    }

    static void promise04_aNotIsOfItsNextConditionAlone() {
        says("not 1=1 or 1=1", true);
        says("not 1=2 and 1=2", false);
        says("not [1=2 and 1=2]", true);
        says("not not 1=1", true);
        says("not not not 1=1", false);
    }

    static void promise04_sumsAndProductsGoFromTheLeft() {
        says("10-3-2=5", true);
        says("2+3*4=14", true);
        says("(2+3)*4=20", true);
        says("12/2*3=18", true);
        says("2*3/4=1", true);
        says("10-3+2=9", true);
        says("100/10/5=2", true);
    }

    static void promise04_greaterAndLessAreNotEqual() {
        says("4<5", true);
        says("5<5", false);
        says("6<5", false);
        says("6>5", true);
        says("5>5", false);
        says("4>5", false);
        says("5=5", true);
        says("4=5", false);
        says("0-1<0", true);
        says("0>0-1", true);
    }

    static void promise04_valuesWrapAtThirtyTwoBits() {
        says("(128*256)*(256*256)<0", true);
        says("(128*256)*(256*256)=0-(128*256)*(256*256)", true);
        says("(128*256)*(256*256)-1>0", true);
        says("(128*256)*(256*256)-1+1<0", true);
        says("(256*256)*(256*256)=0", true);
        says("(256*256)*(256*256)+7=7", true);
    }

    static void promise04_aQuotientIsCut() {
        says("7/2=3", true);
        says("(0-7)/2=0-3", true);
        says("7/(0-2)=0-3", true);
        says("(0-7)/(0-2)=3", true);
        says("1/2=0", true);
        says("(0-1)/2=0", true);
    }

    static void promise04_byZeroItIsZero() {
        says("5/0=0", true);
        says("0/0=0", true);
        says("(0-5)/(1-1)=0", true);
        says("5/0+3=3", true);
        says("(128*256)*(256*256)/0=0", true);
    }

    static void promise04_theLeastNumberByMinusOneWraps() {
        says("(128*256)*(256*256)/(0-1)=(128*256)*(256*256)", true);
    }

    static void promise04_bothSidesAreWorked() {
        says("1=1 or 1/0=5", true);
        says("1=2 and 1/0=0", false);
    }

    static void promise04_aWordOfThePresentState() {
        String land = "place;place hut;place;way 0 1;way 1 2;person 0;person 0;hours 9;store 6;"
                + "snow 1 3 3 5;snow 0 3 3 16;";
        Edge.due("hour 0", Edge.of(land, "go if hour=0;").next(0, 0, 6), 3);
        Edge.due("the last hour", Edge.of(land, "go if hour=8;").next(0, 8, 6), 3);
        Edge.due("all hours left", Edge.of(land, "go if left=9;").next(0, 0, 6), 3);
        Edge.due("one left", Edge.of(land, "go if left=1;").next(0, 8, 6), 3);
        Edge.due("one store", Edge.of(land, "go if stores=1;").next(0, 0, 1), 3);
        Edge.due("all stores", Edge.of(land, "go if stores=6;").next(0, 0, 6), 3);
        Edge.due("at a hut", Edge.of(land, "go if hut=1;").next(1, 0, 6), 7);
        Edge.due("not at a hut", Edge.of(land, "go if hut=1;").next(0, 0, 6), 1);
        Edge.due("elsewhere", Edge.of(land, "go if hut=0;").next(0, 0, 6), 3);
        Edge.due("not elsewhere", Edge.of(land, "go if hut=0;").next(1, 0, 6), 1);
        Edge.due("who leads", Edge.of(land, "go if leader=1;").next(0, 1, 6), 3);
        Edge.due("who does not", Edge.of(land, "go if leader=1;").next(0, 2, 6), 1);
        Edge.due("the place", Edge.of(land, "go if place=2;").next(2, 0, 6), 5);
        Edge.due("the place gone to", Edge.of(land, "go if to=2;").next(1, 0, 6), 5);
        Edge.due("the place rested at", Edge.of(land, "rest if to=1;").next(1, 0, 6), 7);
        Edge.due("snow of the way", Edge.of(land, "go if snow=5;").next(1, 3, 6), 5);
        Edge.due("snow that closes for sure", Edge.of(land, "go if snow=16;").next(1, 3, 6), 3);
        Edge.due("no snow an hour earlier", Edge.of(land, "go if snow=0;").next(1, 2, 6), 7);
        Edge.due("no snow of resting", Edge.of(land, "rest if snow=0;").next(1, 3, 6), 7);
    }

    static void promise04_aWordIsOfTheStateThatIsAskedFor() {
        GlassLeaders g = Edge.of("place;place hut;place;way 0 1;way 1 2;person 0;snow 0 3 3 16;snow 1 3 3 5;",
                "rest if snow=0 and to=place;go if snow>0 and not to=place;");
        Edge.due("all moves of a state of snow", g.next(1, 3, 6), 7);
        Edge.due("all moves of the next one", g.next(2, 3, 6), 5);
        Edge.due("rest alone an hour later", g.next(1, 4, 6), 1);
        Edge.due("all moves again", g.next(1, 3, 6), 7);
    }

    static void promise04_aRuleIsRestOrGoIfACondition() {
        lawFails("rest 1=1;", 1, 5);
        lawFails("if 1=1;", 1, 0);
        lawFails("goif 1=1;", 1, 0);
        lawFails("go if;", 1, 5);
        lawFails("go if 1;", 1, 7);
        lawFails("go if 1=1=1;", 1, 9);
        lawFails("go if 1=1", 1, 9);
        lawFails("go if 1=1;;", 1, 10);
        lawFails("go if (1=1);", 1, 8);
        lawFails("go if [1];", 1, 8);
        lawFails("go if [1=1);", 1, 10);
        lawFails("go if (1]=1;", 1, 8);
        lawFails("go if 1=1 and;", 1, 13);
        lawFails("go if or 1=1;", 1, 6);
        lawFails("go if not;", 1, 9);
        lawFails("go if 1+=1;", 1, 8);
        lawFails("go if end=1;", 1, 6);
    }

    static void promise04_wordsAndNumbersNeedNoBlanksBetween() {
        lawStands("rest if1=1and2=2or3=3;", 1);
        lawFails("rest if 1=1andnot 2=2;", 1, 11);
        lawStands("  rest  if  (  1  )  =  1  ;  ", 1);
    }

    static void promise04_aFaultLeavesTheLawAndAllElse() {
        String[] faulty = {"go", "rest if 1=2;go if 1=10000;", Edge.times(11, "rest if 1=2;"), "go if [[[[[[["};
        for (String law : faulty) {
            GlassLeaders g = Edge.full();
            g.law(0);
            Edge.ruled(g, "rest if hour<9;go if stores>0;");
            Edge.due("a law with a fault", Edge.law(g, law) < 0 ? 1 : 0, 1);
            Edge.due("bytes", g.count(2), 0);
            GlassLeaders twin = Edge.emptied(Edge.full());
            Edge.due("all but tape and fault", butFault(g), butFault(twin));
        }
    }

    static void promise04_aLawLeavesAllButTheLaw() {
        GlassLeaders g = Edge.emptied(Edge.full());
        Edge.due("law", Edge.law(g, "") + Edge.law(g, "rest if hour<9; go if stores>0;"), 2);
        GlassLeaders twin = Edge.emptied(Edge.full());
        Edge.due("all but tape and fault", butFault(g), butFault(twin));
    }

    static void promise04_anotherLawIsKeptToAtOnce() {
        GlassLeaders g = Edge.of(Edge.SMALL);
        Edge.due("before", g.value(0, 0, 0, 3), 9);
        Edge.ruled(g, "go if 1=2;");
        Edge.due("moves", g.next(0, 0, 3), 1);
        Edge.due("behind", g.value(0, 0, 0, 3), -10);
        Edge.ruled(g, "");
        Edge.due("without again", g.value(0, 0, 0, 3), 9);
    }

    static void promise04_nothingOfAnOldLawIsLeft() {
        GlassLeaders g = Edge.of(Edge.SMALL, "go if 1+1+1+1+1=1+1+1+1+1*1*1*1;rest if 1=2;go if 1=2;");
        Edge.ruled(g, "go if 1=2;");
        Edge.ruled(g, "go if 1=1;");
        Edge.due("moves", g.next(0, 0, 3), 7);
        Edge.due("rules", g.told(8), 1);
        Edge.law(g, "rest if 1=2;go if 1=2;x");
        Edge.due("moves behind a fault", g.next(0, 0, 3), 7);
        Edge.ruled(g, "");
        Edge.due("moves without a law", g.next(0, 0, 3), 7);
    }

    static void promise04_aLawMayBeToldWithoutALand() {
        GlassLeaders g = new GlassLeaders();
        Edge.due("rules", Edge.law(g, "go if 1=2;rest if 1=1;"), 2);
        Edge.due("told", g.told(8), 2);
        Edge.land(g, Edge.SMALL);
        Edge.due("gone by a land", g.told(8), 0);
        Edge.due("moves", g.next(0, 0, 3), 7);
    }

    // ---------------------------------------------------------------------------- 5: fault

    static void promise05_noneAtFirst() {
        Edge.due("fault", new GlassLeaders().fault(), -1);
    }

    static void promise05_noneBehindATextThatStands() {
        GlassLeaders g = new GlassLeaders();
        Edge.land(g, "x");
        Edge.due("fault", g.fault(), 0);
        Edge.law(g, "go if 1=1;");
        Edge.due("behind a law that stands", g.fault(), -1);
        Edge.law(g, "go if 1=1;x");
        Edge.due("fault of a law", g.fault(), 10);
        Edge.land(g, "place;person 0;");
        Edge.due("behind a land that stands", g.fault(), -1);
    }

    static void promise05_theLatestTextCounts() {
        GlassLeaders g = new GlassLeaders();
        Edge.land(g, "place;x");
        Edge.law(g, "go x");
        Edge.due("fault of the law", g.fault(), 3);
        Edge.land(g, "place;person x");
        Edge.due("fault of the land", g.fault(), 13);
    }

    static void promise05_aRefusedTextIsNone() {
        GlassLeaders g = new GlassLeaders();
        Edge.land(g, "place;x");
        Edge.reason(g, x -> x.land(1));
        Edge.reason(g, x -> x.law(-1));
        Edge.due("fault", g.fault(), 6);
    }

    static void promise05_atItsFirstByteBehindBlanks() {
        fails("place;   xyz;", 1, 9);
        fails("place;person    10;", 2, 16);
        fails(Edge.times(12, "place;") + "   place;", 3, 75);
        lawFails("go if    10000=1;", 2, 9);
        lawFails("go if [[[[[[  [1=1", 3, 14);
    }

    static void promise05_atTheLengthIfTheTextEndsTooEarly() {
        fails("place", 1, 5);
        fails("place   ", 1, 8);
        fails("place;place;way 0", 1, 17);
        fails("place;place;way 0  ", 1, 19);
        lawFails("rest", 1, 4);
        lawFails("rest if", 1, 7);
        lawFails("rest if 1=1", 1, 11);
        lawFails("rest if [1=1   ", 1, 15);
        GlassLeaders g = new GlassLeaders();
        Edge.feed(g, "place;person 0;");
        g.land(12);
        Edge.due("the length is what is taken of the tape", g.fault(), 12);
    }

    static void promise05_theFirstFromTheLeft() {
        fails("place;person 10;x", 2, 13);
        fails("x;person 10;", 1, 0);
        fails("place;person 11 x;hours 0;", 2, 13);
        lawFails("go if 1=10000 [[[[[[[", 2, 8);
        lawFails("go if [[[[[[[10000", 3, 12);
        fails("place;hours 25;", 2, 12);
    }

    static void promise05_ofOneByteTheLeast() {
        String sixty = "place;person 0;" + Edge.times(58, "lost 1;");
        fails(sixty + "x;", 1, sixty.length());
        fails("place", 1, 5);
        fails("place;hours 3", 1, 13);
        lawFails(Edge.times(10, "go if 1=1;") + "x", 1, 100);
        fails(sixty + ";", 1, sixty.length());
    }

    static void promise05_nothingThereIsToldAtTheLength() {
        fails("", 4, 0);
        fails("place;   ", 4, 9);
        GlassLeaders g = new GlassLeaders();
        Edge.feed(g, "place; ");
        g.land(20);
        Edge.due("with all blanks behind it", g.fault(), 20);
    }

    static void promise05_theLastByteOfSixHundred() {
        GlassLeaders g = new GlassLeaders();
        Edge.feed(g, "place;person 0;" + Edge.times(584, " ") + "x");
        Edge.due("land", g.land(600), -9);
        Edge.due("fault", g.fault(), 599);
        Edge.feed(g, "place;person 0;" + Edge.times(580, " ") + "lost ");
        Edge.due("land that ends too early", g.land(600), -9);
        Edge.due("fault at the length", g.fault(), 600);
    }

    public static void main(String[] args) {
        Edge.runAll(GlassLeadersEdgesOfTexts.class, 1, 5);
    }
}
