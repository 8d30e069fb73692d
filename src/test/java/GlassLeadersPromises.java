import java.util.NoSuchElementException;

/** Each promise, 1 to 51: ordinary inputs, the edges that the document names, and wrong inputs. */
public final class GlassLeadersPromises {
    private static int wrong = 0;
    private static int promise = 0;

    /** A land of an end, a hut and two who want different things. */
    private static final String SMALL = "place;place end;place hut;way 0 1;way 0 2;way 2 1;person 1;person 0;"
            + "wants 0 1 10;wants 1 2 5;hours 3;store 3;lost 7;start 0;";

    /**
     * Two hours, one each: from 0 to 1 and there to 2 (best for person 1) or 3 (good for both); who leads the
     * first hour dares not go on as long as the other one leads the second.
     */
    private static final String DARE = "place;place;place;place;way 0 1;way 1 2;way 1 3;person 0;person 0;"
            + "wants 0 0 3;wants 1 0 3;wants 1 2 10;wants 0 3 8;wants 1 3 8;hours 2;";

    /** One way to the end, closed by 4 of 16 in two hours of three. */
    private static final String SNOWED = "place;place end;way 0 1;person 1;wants 0 1 9;snow 0 0 1 4;hours 3;";

    private interface Call {
        long call();
    }

    private static void due(String what, long got, long want) {
        if (got != want) {
            wrong++;
            System.out.println("promise " + promise + ": " + what + " answered " + got + ", due is " + want);
        }
    }

    /** 0 IndexOutOfBounds, 1 NoSuchElement, 2 IllegalArgument, 3 IllegalState; counted by status, too. */
    private static void refuses(GlassLeaders g, String what, int why, Call call) {
        int[] before = {g.status(0), g.status(1), g.status(2), g.status(3)};
        int got = -1;
        try {
            call.call();
        } catch (IndexOutOfBoundsException e) {
            got = e.getClass() == IndexOutOfBoundsException.class ? 0 : 9;
        } catch (NoSuchElementException e) {
            got = 1;
        } catch (IllegalArgumentException e) {
            got = 2;
        } catch (IllegalStateException e) {
            got = 3;
        }
        due(what + ", refusal", got, why);
        for (int i = 0; i < 4; i++) {
            due(what + ", status " + i, g.status(i), before[i] + (i == why ? 1 : 0));
        }
    }

    private static void feed(GlassLeaders g, String text) {
        for (int at = 0; at < text.length(); at += 20) {
            int[] five = new int[5];
            for (int i = 0; i < 20; i++) {
                int b = at + i < text.length() ? text.charAt(at + i) : 0;
                five[i / 4] = five[i / 4] << 8 | b;
            }
            g.feed(five[0], five[1], five[2], five[3], five[4]);
        }
    }

    private static GlassLeaders of(String land) {
        GlassLeaders g = new GlassLeaders();
        feed(g, land);
        if (g.land(land.length()) < 0) {
            due("land [" + land + "] has a fault at " + g.fault(), 1, 0);
        }
        return g;
    }

    private static GlassLeaders of(String land, String law) {
        GlassLeaders g = of(land);
        tell(g, law);
        return g;
    }

    private static void tell(GlassLeaders g, String law) {
        feed(g, law);
        if (g.law(law.length()) < 0) {
            due("law [" + law + "] has a fault at " + g.fault(), 1, 0);
        }
    }

    private static void newObject() {
        GlassLeaders g = new GlassLeaders();
        due("NONE", GlassLeaders.NONE, -1);
        for (int i = 0; i <= 8; i++) {
            due("told " + i, g.told(i), 0);
        }
        for (int i = 0; i < 4; i++) {
            due("count " + i, g.count(i), 0);
            due("status " + i, g.status(i), 0);
        }
        due("fault", g.fault(), -1);
        due("ended", g.ended(), -1);
        due("was", g.was(0, 0), -1);
        due("on", g.on(), -1);
        due("clear", g.clear(), 0);
        due("plan", g.plan(23, 0), 0);
        due("turn", g.turn(23, -1), -1);
        due("days", g.days(12), 1);
        due("row", g.row(0), 1);
        refuses(g, "a plan's move without ways", 2, () -> g.plan(0, 1));
        refuses(g, "a row's move without ways", 2, () -> g.row(1));
        refuses(g, "turn without persons", 0, () -> g.turn(0, 0));
    }

    private static void withoutLand() {
        GlassLeaders g = new GlassLeaders();
        refuses(g, "whose", 3, () -> g.whose(99));
        refuses(g, "next", 3, () -> g.next(9, 9, 99));
        refuses(g, "takes", 3, () -> g.takes(0, 0, 0));
        refuses(g, "value", 3, () -> g.value(9, 0, 0, 0));
        refuses(g, "scale", 3, () -> g.scale(99));
        refuses(g, "all", 3, () -> g.all());
        refuses(g, "alone", 3, () -> g.alone(9));
        refuses(g, "run", 3, () -> g.run(9));
        refuses(g, "judge", 3, () -> g.judge());
        refuses(g, "proof", 3, () -> g.proof(9));
        refuses(g, "hour", 3, () -> g.hour(9, 99));
        refuses(g, "give", 3, () -> g.give());
        refuses(g, "price", 3, () -> g.price(99, 9));
        refuses(g, "order", 3, () -> g.order(9));
        refuses(g, "length", 3, () -> g.length(9));
        refuses(g, "trap", 3, () -> g.trap(0, 0, 99) ? 1 : 0);
        refuses(g, "force", 3, () -> g.force(0, 0, 99));
        refuses(g, "ever", 3, () -> g.ever(0, 0, 99));
        refuses(g, "there", 3, () -> g.there(9));
        refuses(g, "blind", 3, () -> g.blind(9));
        refuses(g, "asks", 3, () -> g.asks(9));
        refuses(g, "beside", 3, () -> g.beside(9));
        refuses(g, "pact", 3, () -> g.pact(9, 9, 9));
        refuses(g, "holds", 3, () -> g.holds());
        refuses(g, "mind", 3, () -> g.mind());
        refuses(g, "arrives", 3, () -> g.arrives(99, 9));
        refuses(g, "visits", 3, () -> g.visits(99));
        refuses(g, "without", 3, () -> g.without(99, 9));
        refuses(g, "swap", 3, () -> g.swap(9, 9));
        refuses(g, "vote", 3, () -> g.vote());
        refuses(g, "needs", 3, () -> g.needs());
    }

    private static void feeding() {
        GlassLeaders g = new GlassLeaders();
        for (int i = 1; i <= 30; i++) {
            due("feed", g.feed(0x20202020, 0x20202020, 0x20202020, 0x20202020, 0x20202020), 20 * i);
        }
        due("one feed more", g.feed(0x70202020, 0, 0, 0, 0), -1);
        due("bytes", g.count(2), 600);
        due("land of blanks", g.land(600), -6);
        due("fault", g.fault(), 600);
        due("the highest byte first", g.feed(0x706c6163, 0x653b7065, 0x72736f6e, 0x20303bff, 0x80ff00ff), 20);
        due("land", g.land(15), 1);
        g.feed(0x706c6163, 0x653b7065, 0x72736f6e, 0x20303bff, 0x80ff00ff);
        due("a byte above 127 is a byte", g.land(16), -9);
        due("its place", g.fault(), 15);
    }

    private static void landing() {
        GlassLeaders g = of(DARE, "go if to<3;");
        tellAll(g);
        feed(g, SMALL);
        refuses(g, "land of less than nothing", 2, () -> g.land(-1));
        refuses(g, "land of more than there is", 2, () -> g.land(g.count(2) + 1));
        due("the tape stays", g.count(2), 140);
        due("a land with a fault", g.land(20), -9);
        due("its place", g.fault(), 16);
        due("the tape is empty", g.count(2), 0);
        due("the old land stays", g.told(0), 4);
        due("the old law stays", g.told(8), 1);
        due("the rows stay", g.count(0), 1);
        due("the images stay", g.count(1), 1);
        due("the turns stay", g.count(3), 1);
        due("the journey stays", g.ended(), 0);
        refuses(g, "land of an empty tape", 2, () -> g.land(1));
        due("the fault of the latest text stays", g.fault(), 16);
        feed(g, SMALL);
        due("land", g.land(SMALL.length()), 3);
        due("no fault", g.fault(), -1);
        due("the tape is empty again", g.count(2), 0);
        due("no law", g.told(8), 0);
        due("no rows", g.count(0), 0);
        due("no images", g.count(1), 0);
        due("no turns", g.count(3), 0);
        due("no journey", g.ended(), -1);
        due("no journey's place", g.was(0, 0), -1);
        due("kind as at first", g.kind(1, 0), 0);
        due("plan as at first", g.plan(1, 0), 0);
        due("turns as long as at first", g.days(1), 1);
        String part = "place;person 0;place;";
        feed(g, part);
        due("only the first bytes", g.land(15), 1);
    }

    private static void tellAll(GlassLeaders g) {
        g.kind(1, 2);
        g.plan(1, 1);
        g.turn(1, 0);
        g.days(2);
        g.row(1);
        g.run(1);
        g.image();
    }

    private static void laws() {
        GlassLeaders g = new GlassLeaders();
        tell(g, "go if 1=1;rest if 1=1;");
        due("a law without a land", g.told(8), 2);
        feed(g, "go if 1;go if 1=1;");
        refuses(g, "law of less than nothing", 2, () -> g.law(-1));
        refuses(g, "law of more than there is", 2, () -> g.law(21));
        due("the tape stays", g.count(2), 20);
        due("a law with a fault", g.law(18), -9);
        due("its place", g.fault(), 7);
        due("the tape is empty", g.count(2), 0);
        due("the law stays", g.told(8), 2);
        due("a law of nothing", g.law(0), 0);
        due("no rules", g.told(8), 0);
        due("no fault", g.fault(), -1);
        GlassLeaders h = of(SMALL);
        tellAll(h);
        due("value before", h.kind(1, 0) + h.value(0, 0, 0, 3), 2 + h.value(0, 0, 0, 3));
        tell(h, "go if 1=2;");
        due("a new law is kept to", h.takes(0, 0, 3), 0);
        due("rows stay", h.count(0), 1);
        due("images stay", h.count(1), 1);
        due("turns stay", h.count(3), 1);
    }

    private static void tolds() {
        GlassLeaders g = of(SNOWED, "go if 1=1;");
        int[] due = {2, 1, 1, 3, 12, 0, 0, 2, 1};
        for (int i = 0; i < due.length; i++) {
            due("told " + i, g.told(i), due[i]);
        }
        GlassLeaders d = of("place;place;person 0;way 0 1;snow 0 10 15 1;");
        due("hours without", d.told(3), 12);
        due("snowy hours below hours", d.told(7), 2);
        due("the last counts", of("place;person 0;hours 3;hours 9;").told(3), 9);
        due("the last start counts", of("place;place;person 0;start 1;start 0;start 1;").told(6), 1);
        refuses(g, "told -1", 2, () -> g.told(-1));
        refuses(g, "told 9", 2, () -> g.told(9));
    }

    private static void snows() {
        GlassLeaders g = of("place;place;person 0;way 0 1;way 0 1;snow 0 3 5 7;snow 0 5 6 16;snow 1 4 4 1;");
        due("before", g.snow(0, 2), 0);
        due("first", g.snow(0, 3), 7);
        due("the last counts", g.snow(0, 5), 16);
        due("last", g.snow(0, 6), 16);
        due("after", g.snow(0, 7), 0);
        due("another way", g.snow(1, 4), 1);
        due("an hour beyond hours", g.snow(1, 23), 0);
        refuses(g, "no such way", 1, () -> g.snow(2, 0));
        refuses(g, "no such way, nor hour", 1, () -> g.snow(-1, 24));
        refuses(g, "no such hour", 2, () -> g.snow(0, 24));
        refuses(g, "an hour below 0", 2, () -> g.snow(0, -1));
        GlassLeaders bare = new GlassLeaders();
        refuses(bare, "without a land", 1, () -> bare.snow(0, 0));
    }

    private static void wants() {
        GlassLeaders g = of("place;place;person 4;person 0;wants 1 1 7;wants 1 1 8;wants 0 0 99;");
        due("cost", g.wants(0, -1), 4);
        due("wants", g.wants(0, 0), 99);
        due("without", g.wants(0, 1), 0);
        due("the last counts", g.wants(1, 1), 8);
        refuses(g, "no such person", 0, () -> g.wants(2, 0));
        refuses(g, "no person below 0", 0, () -> g.wants(-1, 9));
        refuses(g, "no such place", 2, () -> g.wants(0, 2));
        refuses(g, "no place below NONE", 2, () -> g.wants(0, -2));
    }

    private static void kinds() {
        GlassLeaders g = of(SMALL);
        due("kind at first", g.kind(1, 5), 0);
        due("kind as told", g.kind(1, 3), 5);
        due("the other's", g.kind(0, 4), 0);
        refuses(g, "no such kind", 2, () -> g.kind(0, 6));
        refuses(g, "no kind below 0", 2, () -> g.kind(0, -1));
        refuses(g, "no such person", 0, () -> g.kind(2, 6));
        due("a refused one changes nothing", g.kind(0, 0), 4);
    }

    private static void plans() {
        GlassLeaders g = of(SMALL);
        due("rest at first", g.plan(0, 3), 0);
        due("as told", g.plan(0, 2), 3);
        due("hour 23", g.plan(23, 1), 0);
        refuses(g, "no such hour", 2, () -> g.plan(24, 0));
        refuses(g, "an hour below 0", 2, () -> g.plan(-1, 0));
        refuses(g, "no such move", 2, () -> g.plan(0, 4));
        refuses(g, "a move below 0", 2, () -> g.plan(0, -1));
        due("a refused one changes nothing", g.plan(0, 0), 2);
    }

    private static void turns() {
        GlassLeaders g = of(SMALL);
        due("by turns at first", g.turn(0, 1), -1);
        due("whose", g.whose(0), 1);
        due("as told", g.turn(0, -1), 1);
        due("by turns again", g.whose(0), 0);
        due("hour 23", g.turn(23, 0), -1);
        due("told hours", g.count(3), 1);
        refuses(g, "no such hour", 2, () -> g.turn(24, 0));
        refuses(g, "an hour below 0", 2, () -> g.turn(-1, -1));
        refuses(g, "no such person", 0, () -> g.turn(0, 2));
        refuses(g, "no person below NONE", 0, () -> g.turn(24, -2));
    }

    private static void daysAndWhose() {
        GlassLeaders g = of("place;person 0;person 0;person 0;");
        due("one hour at first", g.days(2), 1);
        int[] by = {0, 0, 1, 1, 2, 2, 0, 0};
        for (int i = 0; i < by.length; i++) {
            due("whose " + i, g.whose(i), by[i]);
        }
        g.turn(2, 0);
        due("told", g.whose(2), 0);
        due("hours told count in turns, too", g.whose(3), 1);
        due("as they were", g.days(12), 2);
        due("hour 11", g.whose(11), 0);
        due("hour 23", g.whose(23), 1);
        refuses(g, "days 0", 2, () -> g.days(0));
        refuses(g, "days 13", 2, () -> g.days(13));
        due("a refused one changes nothing", g.days(1), 12);
        promise = 13;
        due("beyond hours", g.whose(20), 2);
        refuses(g, "no such hour", 2, () -> g.whose(24));
        refuses(g, "an hour below 0", 2, () -> g.whose(-1));
    }

    private static void wrongStates(GlassLeaders g, String what, java.util.function.IntBinaryOperator at) {
        refuses(g, what + ", no such place", 2, () -> at.applyAsInt(0, g.told(0)));
        refuses(g, what + ", a place below 0", 2, () -> at.applyAsInt(0, -1));
        refuses(g, what + ", no such hour", 2, () -> at.applyAsInt(1, g.told(3) + 1));
        refuses(g, what + ", an hour below 0", 2, () -> at.applyAsInt(1, -1));
        refuses(g, what + ", no such stores", 2, () -> at.applyAsInt(2, g.told(4) + 1));
        refuses(g, what + ", stores below 0", 2, () -> at.applyAsInt(2, -1));
    }

    private static void nexts() {
        GlassLeaders g = of(SMALL);
        due("all", g.next(0, 0, 3), 7);
        due("at an end", g.next(1, 0, 3), 0);
        due("lost", g.next(0, 0, 0), 0);
        due("at hour hours", g.next(0, 3, 3), 0);
        due("at the hut", g.next(2, 2, 1), 13);
        due("by law of who leads", of(SMALL, "go if leader=1;").next(0, 0, 3), 1);
        due("by law of who leads, another hour", of(SMALL, "go if leader=1;").next(0, 1, 3), 7);
        due("forced", of(SMALL, "go if 1=2;rest if 1=2;").next(0, 1, 3), 1);
        wrongStates(g, "next", (i, v) -> g.next(i == 0 ? v : 0, i == 1 ? v : 0, i == 2 ? v : 1));
        GlassLeaders far = of("place;person 0;place;" + "way 0 1;".repeat(24));
        due("24 ways", far.next(0, 0, 12), (1 << 25) - 1);
    }

    private static void takesByKind() {
        GlassLeaders g = of(DARE);
        due("ahead: rests, for the other would go to 2", g.takes(0, 0, 12), 0);
        due("ahead, last hour", g.takes(1, 1, 12), 2);
        g.kind(0, 1);
        due("own: goes, as if he led on", g.takes(0, 0, 12), 1);
        g.kind(0, 2);
        due("for all: ten together are more than six", g.takes(0, 0, 12), 1);
        g.kind(1, 2);
        due("for all, last hour", g.takes(1, 1, 12), 3);
        g.kind(1, 3);
        due("spend", g.takes(1, 1, 12), 0);
        g.kind(1, 0);
        g.kind(0, 4);
        due("blind: both may come to nothing, so the first", g.takes(0, 0, 12), 0);
        g.kind(0, 5);
        due("planned: rest at first", g.takes(0, 0, 12), 0);
        g.plan(0, 1);
        due("planned", g.takes(0, 0, 12), 1);
        g.plan(0, 2);
        due("planned, but not lawful", g.takes(0, 0, 12), 0);
        tell(g, "rest if 1=2;");
        due("planned, neither that nor rest lawful", g.takes(0, 0, 12), 1);
        due("planned, a way elsewhere", g.takes(3, 0, 12), 3);
        g.kind(0, 3);
        due("spend, rest not lawful", g.takes(1, 0, 12), 1);
        due("ended", g.takes(0, 2, 12), -1);
        due("lost", g.takes(0, 0, 0), -1);
        wrongStates(g, "takes", (i, v) -> g.takes(i == 0 ? v : 0, i == 1 ? v : 0, i == 2 ? v : 1));
        GlassLeaders b = of(DARE + "wants 0 0 4;wants 0 1 4;wants 1 1 4;wants 1 3 12;");
        due("ahead: the other would go to 3", b.takes(0, 0, 12), 1);
        b.kind(0, 4);
        due("blind: fears 2", b.takes(0, 0, 12), 0);
        GlassLeaders o = of(DARE, "go if to<3 or leader=1;");
        o.kind(0, 1);
        due("own: by the law as leader in all of them", o.takes(0, 0, 12), 0);
    }

    private static void values() {
        GlassLeaders g = of(SMALL);
        due("at the beginning", g.value(0, 0, 0, 3), 9);
        due("there, cost of hours gone", g.value(0, 1, 2, 0), 8);
        due("lost", g.value(0, 0, 2, 0), -9);
        due("lost, whatever he wants", g.value(1, 2, 1, 0), -7);
        due("at hour hours", g.value(1, 2, 3, 3), 5);
        g.kind(0, 3);
        due("after a kind", g.value(0, 0, 0, 3), -3);
        g.turn(1, 0);
        g.kind(0, 0);
        due("after a turn", g.value(1, 0, 0, 3), 0);
        GlassLeaders d = of(DARE);
        due("before days", d.all(), 6);
        d.days(2);
        due("after days", d.all(), 16);
        d.days(1);
        d.kind(0, 5);
        due("before a plan", d.all(), 6);
        d.plan(0, 1);
        due("after a plan", d.all(), 10);
        GlassLeaders s = of(SNOWED);
        due("by chances", s.value(0, 0, 0, 12), 1968);
        due("by chances, next hour", s.value(0, 0, 1, 11), 108);
        due("no snow any more", s.value(0, 0, 2, 11), 6);
        due("times scale", s.value(0, 1, 1, 11), 8 * 16);
        due("a hut fills the store", of("place hut;person 0;store 1;lost 9;").value(0, 0, 0, 1), 0);
        refuses(g, "no such person", 0, () -> g.value(2, 9, 9, 9));
        refuses(g, "no person below 0", 0, () -> g.value(-1, 0, 0, 0));
        wrongStates(g, "value", (i, v) -> (int) g.value(0, i == 0 ? v : 0, i == 1 ? v : 0, i == 2 ? v : 1));
        String high = "place;place end;way 0 1;person 9;wants 0 1 99;snow 0 0 9 16;snow 0 0 9 15;hours 24;";
        due("the greatest scale", of(high).scale(0), 1L << 40);
    }

    private static void scales() {
        GlassLeaders g = of(SNOWED);
        due("scale 0", g.scale(0), 256);
        due("scale 1", g.scale(1), 16);
        due("scale 2", g.scale(2), 1);
        due("scale at hours", g.scale(3), 1);
        due("snow from hours on does not count",
                of("place;place;person 0;way 0 1;snow 0 2 5 3;hours 4;").scale(0), 256);
        refuses(g, "beyond hours", 2, () -> g.scale(4));
        refuses(g, "below 0", 2, () -> g.scale(-1));
    }

    private static void together() {
        promise = 18;
        due("all", of(DARE).all(), 6);
        due("all by chances; who pays nothing rests in his hour", of(SNOWED + "person 0;wants 1 1 2;").all(), 2432);
        GlassLeaders d = of(SNOWED);
        due("all of one", d.all(), 1968);
        promise = 19;
        GlassLeaders g = of(DARE);
        due("alone 0", g.alone(0), 8);
        due("alone 1", g.alone(1), 10);
        g.kind(1, 3);
        due("whatever his kind", g.alone(1), 10);
        g.turn(0, 0);
        due("whatever is told", g.alone(1), 10);
        tell(g, "go if leader=0;");
        due("by the law as leader", g.alone(1), 3);
        due("by the law as leader, another", g.alone(0), 8);
        refuses(g, "alone, no such person", 0, () -> g.alone(2));
        refuses(g, "alone, no person below 0", 0, () -> g.alone(-1));
        promise = 38;
        GlassLeaders h = of(DARE);
        due("beside 0", h.beside(0), 5);
        due("beside 1", h.beside(1), 7);
        refuses(h, "beside, no such person", 0, () -> h.beside(2));
    }

    private static void journeys() {
        promise = 20;
        GlassLeaders g = of(SMALL);
        due("run", g.run(1), 1);
        promise = 21;
        due("place 0", g.was(0, 0), 0);
        due("stores 0", g.was(0, 1), 3);
        due("move 0", g.was(0, 2), 1);
        due("place 1", g.was(1, 0), 1);
        due("stores 1", g.was(1, 1), 2);
        due("move 1", g.was(1, 2), -1);
        due("place 2", g.was(2, 0), -1);
        due("place 24", g.was(24, 0), -1);
        refuses(g, "hour 25", 2, () -> g.was(25, 0));
        refuses(g, "hour -1", 2, () -> g.was(-1, 0));
        refuses(g, "what 3", 2, () -> g.was(0, 3));
        refuses(g, "what -1", 2, () -> g.was(0, -1));
        promise = 22;
        due("there", g.ended(), 1);
        g.kind(0, 3);
        g.kind(1, 3);
        due("till lost", g.run(1), 3);
        due("lost", g.ended(), 2);
        GlassLeaders late = of(DARE);
        due("till hours", late.run(-5), 2);
        due("late", late.ended(), 0);
        GlassLeaders at = of("place end;person 0;");
        due("ended at the beginning", at.run(0), 0);
        due("there at once", at.ended(), 1);
        due("where", at.was(0, 0), 0);
        due("no move", at.was(0, 2), -1);
        promise = 20;
        drawn();
    }

    /** A draw for each hour on a way with snow, and for no other. */
    private static void drawn() {
        String land = "place;place end;way 0 1;person 1;wants 0 1 9;hours 9;snow 0 0 1 4;snow 0 3 6 9;";
        int[] closing = {4, 4, 0, 9, 9, 9, 9, 0, 0};
        GlassLeaders g = of(land, "rest if hour=2;go if not hour=2;");
        for (int seed = -40; seed < 40; seed++) {
            int start = seed * 123456789;
            int drawn = start;
            int hours = 0;
            for (boolean open = false; !open; hours++) {
                open = hours != 2;
                if (closing[hours] > 0) {
                    drawn = drawn * 1103515245 + 12345;
                    open = (drawn >>> 16) % 32768 % 16 >= closing[hours];
                }
            }
            due("run " + start, g.run(start), hours);
        }
        GlassLeaders shut = of("place;place end;way 0 1;person 0;wants 0 1 9;hours 4;snow 0 0 3 16;", "rest if 1=2;");
        due("closed for sure", shut.run(7), 4);
        due("late", shut.ended(), 0);
        due("the move was taken", shut.was(3, 2), 1);
    }

    private static void rows() {
        promise = 23;
        GlassLeaders g = of(SMALL);
        refuses(g, "no such move", 2, () -> g.row(4));
        refuses(g, "a move below 0", 2, () -> g.row(-1));
        for (int i = 1; i <= 24; i++) {
            due("row " + i, g.row(3), i);
        }
        due("a 25th", g.row(3), -1);
        refuses(g, "no such move, and no room", 2, () -> g.row(4));
        due("count", g.count(0), 24);
        promise = 24;
        due("clear", g.clear(), 24);
        due("clear again", g.clear(), 0);
        due("a row again", g.row(0), 1);
        promise = 25;
        g.clear();
        due("none", g.judge(), -1);
        g.row(2);
        due("lawful", g.judge(), -1);
        g.row(1);
        due("not at the place", g.judge(), 11);
        g.clear();
        g.row(1);
        g.row(0);
        due("ended", g.judge(), 12);
        g.clear();
        g.row(0);
        g.row(0);
        g.row(0);
        due("as long as hours", g.judge(), -1);
        g.row(0);
        due("longer than hours", g.judge(), 32);
        tell(g, "go if 1=2;rest if 1=2;");
        due("forced rest is lawful", g.judge(), 32);
        g.clear();
        g.row(1);
        due("none but that is", g.judge(), 1);
        tell(g, "go if leader=1;");
        due("by who leads", g.judge(), 1);
        g.turn(0, 1);
        due("by who leads, another", g.judge(), -1);
        GlassLeaders s = of(SNOWED + "snow 0 0 0 16;");
        s.row(1);
        s.row(1);
        due("as if none were closed", s.judge(), 12);
    }

    private static void proofs() {
        GlassLeaders g = of(SMALL);
        due("nothing told: he rests, though he would go", g.proof(0), 0);
        g.row(1);
        due("his best", g.proof(0), -1);
        due("not the other's", g.proof(1), 0);
        g.clear();
        g.row(2);
        due("the other's best, then rest", g.proof(1), -1);
        g.row(3);
        due("away from where he wants to be", g.proof(1), 1);
        g.clear();
        g.row(0);
        g.row(2);
        due("later is as good for him", g.proof(1), -1);
        tell(g, "go if leader=0 or hour=0;");
        due("lawful to him, not to who leads: rest, and he can't go any more", g.proof(1), 0);
        due("the other one would have gone at once", g.proof(0), 0);
        refuses(g, "no such person", 0, () -> g.proof(2));
        refuses(g, "no person below 0", 0, () -> g.proof(-1));
        due("the values are as before", g.value(0, 0, 0, 3), 9);
    }

    private static void hoursGivenAndTraded() {
        GlassLeaders g = of(DARE);
        promise = 27;
        due("hour 0 to 1", g.hour(1, 0), 7);
        due("hour, first of all", of(DARE).hour(0, 1), 5);
        due("hour 1 to 0", g.hour(0, 1), 5);
        due("his own", g.hour(0, 0), 0);
        refuses(g, "hour at hours", 2, () -> g.hour(0, 2));
        refuses(g, "hour below 0", 2, () -> g.hour(0, -1));
        refuses(g, "no such person", 0, () -> g.hour(2, 2));
        promise = 28;
        due("give", g.give(), 10);
        due("give, first of all", of(DARE).give(), 10);
        due("none", of(SMALL).give(), -1);
        promise = 29;
        due("price of hour 0", g.price(0, 1), 4);
        due("price, first of all", of(DARE).price(1, 0), 10);
        due("price of hour 1", g.price(1, 0), 10);
        due("to himself", g.price(1, 1), 0);
        refuses(g, "price, hour at hours", 2, () -> g.price(2, 0));
        refuses(g, "price, hour below 0", 2, () -> g.price(-1, 0));
        refuses(g, "price, no such person", 0, () -> g.price(2, 2));
        promise = 45;
        due("swap 0 1", g.swap(0, 1), 1);
        due("swap 1 0", g.swap(1, 0), 100);
        due("none", of(SMALL).swap(0, 1), -1);
        refuses(g, "one", 2, () -> g.swap(1, 1));
        refuses(g, "no such person", 0, () -> g.swap(2, 2));
        refuses(g, "no such other", 0, () -> g.swap(0, 2));
        refuses(g, "no such one", 0, () -> g.swap(2, 0));
        refuses(g, "no one below 0", 0, () -> g.swap(-1, 0));
        due("first of all", of(DARE).swap(0, 1), 1);
        GlassLeaders wasted = of("place;place end;way 0 1;person 0;person 0;wants 0 1 5;wants 1 1 5;hours 1;store 2;");
        wasted.kind(0, 3);
        promise = 28;
        due("who wastes it gives it", wasted.give(), 1);
        wasted.turn(0, 1);
        due("nobody gains any more", wasted.give(), -1);
    }

    private static void roundsAndLengths() {
        GlassLeaders g = of(DARE);
        promise = 30;
        due("to all", g.order(-1), 10);
        due("to 0", g.order(0), 10);
        due("the first of alike ones", of("place;person 0;person 0;person 0;person 0;person 0;").order(-1), 1234);
        due("one", of("place;person 0;").order(0), 0);
        g.turn(1, 1);
        due("told hours aside", g.order(0), 1);
        g.turn(1, -1);
        g.days(2);
        due("as long as told", g.order(1), 10);
        due("as long as told, to 0", g.order(0), 1);
        refuses(g, "order, no such person", 0, () -> g.order(2));
        refuses(g, "order, below NONE", 0, () -> g.order(-2));
        promise = 31;
        g.days(1);
        due("length to all", g.length(-1), 2);
        due("length to 1", g.length(1), 2);
        due("the least", of(SMALL).length(0), 1);
        g.turn(0, 1);
        due("who is told leads all the same", g.length(0), 2);
        refuses(g, "length, no such person", 0, () -> g.length(2));
        refuses(g, "length, below NONE", 0, () -> g.length(-2));
        due("nothing is changed", g.days(1), 1);
        String chain = "place;person 0;person 0;" + "place;".repeat(10) + "place end;";
        for (int i = 0; i < 11; i++) {
            chain += "way " + i + " " + (i + 1) + ";";
        }
        chain += "wants 0 11 9;lost 9;";
        due("as long as can be", of(chain + "hours 24;", "go if leader=0 and hour>0;").length(0), 12);
        due("one less will not do", of(chain + "hours 24;", "go if leader=0;").length(0), 11);
        due("a late turn",
                of("place;person 0;person 0;place end;way 0 1;wants 0 1 5;hours 24;store 12;lost 9;",
                        "go if leader=1 and hour>10;").length(0), 1);
    }

    private static void trapsAndForces() {
        promise = 32;
        GlassLeaders g = of(SMALL, "rest if 0=1;go if to=2 or hour>0;");
        due("trap", g.trap(0, 0, 3) ? 1 : 0, 1);
        due("two moves", g.trap(0, 1, 3) ? 1 : 0, 0);
        due("ended", g.trap(1, 0, 3) ? 1 : 0, 0);
        due("lost", g.trap(0, 0, 0) ? 1 : 0, 0);
        due("late", g.trap(0, 3, 3) ? 1 : 0, 0);
        due("forced", of("place;person 0;", "rest if 1=2;").trap(0, 0, 1) ? 1 : 0, 1);
        wrongStates(g, "trap", (i, v) -> g.trap(i == 0 ? v : 0, i == 1 ? v : 0, i == 2 ? v : 1) ? 1 : 0);
        promise = 33;
        due("none", g.force(0, 0, 3), -1);
        GlassLeaders f = of(SMALL, "go if not place=2;");
        due("behind going to 2", f.force(0, 0, 3), 2);
        due("rest at 2", f.force(2, 0, 3), 0);
        due("lost behind it is no trap", f.force(0, 1, 1), 2);
        due("late behind it is no trap", f.force(0, 2, 3), -1);
        due("ended", f.force(1, 0, 3), -1);
        GlassLeaders s = of(SMALL + "snow 1 0 0 16;", "go if not place=2;");
        due("as if not closed", s.force(0, 0, 3), 2);
        wrongStates(g, "force", (i, v) -> g.force(i == 0 ? v : 0, i == 1 ? v : 0, i == 2 ? v : 1));
    }

    private static void evers() {
        String line = "place;place;place end;way 0 1;way 1 2;person 0;wants 0 2 9;";
        GlassLeaders g = of(line);
        due("two hours", g.ever(0, 0, 12), 2);
        due("one hour", g.ever(1, 5, 12), 1);
        due("there", g.ever(2, 12, 0), 0);
        due("too late", g.ever(0, 11, 12), -1);
        due("just in time", g.ever(0, 10, 12), 2);
        due("just enough", g.ever(0, 0, 2), 2);
        due("not enough", g.ever(0, 0, 1), -1);
        due("lost", g.ever(0, 0, 0), -1);
        due("closed for sure", of(line + "snow 0 0 0 16;").ever(0, 0, 12), 3);
        due("closed for sure, and none goes by", of(line + "snow 0 0 0 16;", "rest if 1=2;").ever(0, 0, 12), 3);
        due("other snow does not matter", of(line + "snow 0 0 0 15;").ever(0, 0, 12), 2);
        due("not lawful to who leads", of(line + "person 0;", "go if leader=1;").ever(0, 0, 12), 4);
        due("never", of(line, "go if to<2;").ever(0, 0, 12), -1);
        due("a hut on the way", of("place;place hut;place end;way 0 1;way 1 2;person 0;store 1;").ever(0, 0, 1), 2);
        wrongStates(g, "ever", (i, v) -> g.ever(i == 0 ? v : 0, i == 1 ? v : 0, i == 2 ? v : 1));
    }

    private static void chances() {
        promise = 35;
        GlassLeaders g = of(SNOWED);
        due("there for sure", g.there(0), 256);
        due("not lost", g.there(1), 0);
        GlassLeaders t = of(SNOWED + "store 2;");
        due("there by chance", t.there(0), 240);
        due("lost by chance", t.there(1), 16);
        refuses(g, "what 2", 2, () -> g.there(2));
        refuses(g, "what -1", 2, () -> g.there(-1));
        promise = 42;
        due("hour 0", g.arrives(0, 0), 0);
        due("hour 1", g.arrives(1, 0), 192);
        due("hour 2", g.arrives(2, 0), 48);
        due("hour 3", g.arrives(3, 0), 16);
        due("lost at 2", t.arrives(2, 1), 16);
        due("there at 2", t.arrives(2, 0), 48);
        due("else", of(SNOWED, "go if 1=2;").arrives(3, 2), 256);
        due("there at the beginning", of("place end;person 0;").arrives(0, 0), 1);
        refuses(g, "beyond hours", 2, () -> g.arrives(4, 0));
        refuses(g, "below 0", 2, () -> g.arrives(-1, 0));
        refuses(g, "what 3", 2, () -> g.arrives(0, 3));
        refuses(g, "what -1", 2, () -> g.arrives(0, -1));
        promise = 43;
        due("at 0", g.visits(0), 256 + 64 + 16);
        due("at 1", g.visits(1), 256);
        due("this one too", of(SNOWED, "go if 1=2;").visits(0), 4 * 256);
        refuses(g, "no such place", 2, () -> g.visits(2));
        refuses(g, "no place below 0", 2, () -> g.visits(-1));
    }

    private static void blindAndAsks() {
        promise = 36;
        GlassLeaders b = of(DARE + "wants 0 0 4;wants 0 1 4;wants 1 1 4;wants 1 3 12;");
        due("blind 0", b.blind(0), 4);
        due("blind 1 costs nothing in the last hour", b.blind(1), 0);
        b.kind(0, 3);
        due("whatever his kind", b.blind(0), 4);
        b.kind(1, 3);
        due("others as they are", b.blind(0), 0);
        refuses(b, "no such person", 0, () -> b.blind(2));
        refuses(b, "no person below 0", 0, () -> b.blind(-1));
        promise = 37;
        GlassLeaders g = of(DARE);
        due("asks 0", g.asks(0), 0);
        due("asks 1: be for all, and he comes", g.asks(1), 2);
        g.kind(1, 5);
        g.plan(1, 3);
        due("the first of alike ones", g.asks(1), 2);
        due("nothing is changed", g.kind(1, 0), 5);
        refuses(g, "asks, no such person", 0, () -> g.asks(2));
        refuses(g, "asks, no person below 0", 0, () -> g.asks(-1));
    }

    private static void pacts() {
        promise = 39;
        GlassLeaders g = of(DARE);
        due("to the first", g.pact(0, 1, 0), 5);
        due("to the other", g.pact(0, 1, 1), 5);
        GlassLeaders u = of(DARE + "wants 1 3 9;");
        due("to the first, the other way round", u.pact(1, 0, 0), 6);
        due("to the other, the other way round", u.pact(1, 0, 1), 5);
        refuses(g, "they are one", 2, () -> g.pact(1, 1, 0));
        refuses(g, "what 2", 2, () -> g.pact(0, 1, 2));
        refuses(g, "what -1", 2, () -> g.pact(0, 1, -1));
        refuses(g, "no such person", 0, () -> g.pact(2, 2, 2));
        refuses(g, "no such other", 0, () -> g.pact(0, -1, 0));
        refuses(g, "no such one", 0, () -> g.pact(2, 0, 0));
        due("first of all", of(DARE).pact(0, 1, 1), 5);
        promise = 40;
        due("holds", g.holds(), 1);
        due("holds, first of all", of(DARE).holds(), 1);
        due("none", of(SMALL).holds(), -1);
        GlassLeaders t = of("place;place;place;place;way 0 1;way 1 2;way 1 3;person 0;person 0;person 0;"
                + "wants 1 0 3;wants 2 0 3;wants 2 2 10;wants 1 3 8;wants 2 3 8;hours 2;");
        t.turn(0, 1);
        t.turn(1, 2);
        due("another two", t.holds(), 12);
    }

    private static void minds() {
        due("only at hours", of(DARE).mind(), 2);
        due("one alone is of one mind", of("place;person 0;").mind(), 0);
        due("from the first on", of(SNOWED + "person 1;wants 1 1 5;").mind(), 0);
        String fork = "place;place;place end;place end;way 0 1;way 1 2;way 1 3;person 0;person 0;"
                + "wants 0 2 9;wants 1 3 9;hours 4;";
        due("till the last hour in which one may be at the fork", of(fork).mind(), 4);
        due("from where none is at the fork any more",
                of(fork, "rest if place=0 and hour>0;go if place=0 and hour=0 or place=1 and hour=1;"
                        + "rest if place>1;").mind(), 2);
        due("closed for sure, the fork can't come", of(fork + "snow 0 0 3 16;").mind(), 0);
        due("closed by chance, it can", of(fork + "snow 0 0 3 15;").mind(), 4);
    }

    private static void rulesLess() {
        GlassLeaders g = of(DARE, "rest if 1=1;go if not to=2;");
        due("to all", g.without(1, -1), -10);
        due("to 0", g.without(1, 0), -5);
        due("to 1", g.without(1, 1), -5);
        due("a rule that says nothing", g.without(0, -1), 0);
        due("the law is as before", g.next(1, 0, 12), 11);
        due("the values are as before", g.all(), 16);
        refuses(g, "no such rule", 1, () -> g.without(2, 0));
        refuses(g, "no rule below 0", 1, () -> g.without(-1, 0));
        refuses(g, "no such person", 0, () -> g.without(2, 2));
        refuses(g, "below NONE", 0, () -> g.without(0, -2));
    }

    private static void votes() {
        due("alike ones: the first", of(DARE).vote(), 6);
        GlassLeaders g = of(DARE + "person 0;wants 2 3 8;hours 2;");
        due("two of three", g.vote(), 24);
        g.kind(0, 3);
        due("whatever their kinds", g.vote(), 24);
        tell(g, "go if leader=1 and not to=3 or leader=0;");
        due("lawful to who leads", g.vote(), 6);
    }

    private static void storesNeeded() {
        String line = "place;place;place end;way 0 1;way 1 2;person 0;wants 0 2 9;lost 1;";
        due("two", of(line).needs(), 2);
        due("whatever the store", of(line + "store 1;").needs(), 2);
        due("the law asks for stores as they are then", of(line + "store 1;", "go if stores>2;").needs(), 4);
        due("one more by snow", of(line + "snow 0 0 0 8;").needs(), 3);
        due("never sure", of(line + "snow 0 0 9 8;hours 10;").needs(), -1);
        due("not by 12", of(line, "go if 1=2;").needs(), -1);
        due("not by 12, by the law", of(line, "go if stores>11;").needs(), -1);
        due("by 12", of(line + "store 3;", "go if stores>10;").needs(), 12);
        due("by a hut", of("place;place hut;place end;way 0 1;way 1 2;person 0;wants 0 2 9;").needs(), 1);
        due("there already", of("place end;person 0;").needs(), 1);
        GlassLeaders g = of(line);
        g.kind(0, 3);
        due("all lead as they do", g.needs(), -1);
        due("the store is as before", g.told(4), 12);
        due("the values are as before", g.value(0, 0, 0, 1), -1);
    }

    private static void images() {
        promise = 48;
        GlassLeaders g = of(SMALL);
        tellAll(g);
        due("images", g.count(1), 1);
        due("a second", g.image(), 2);
        due("a third", g.image(), 3);
        due("no fourth", g.image(), -1);
        g.kind(1, 4);
        g.plan(1, 3);
        g.turn(1, 1);
        g.turn(2, 1);
        g.days(5);
        g.row(2);
        g.kind(0, 3);
        g.run(2);
        tell(g, "go if 1=1;");
        feed(g, "abc");
        refuses(g, "for its count", 2, () -> g.told(99));
        promise = 49;
        due("on", g.on(), 2);
        due("kind", g.kind(1, 2), 2);
        due("the other kind", g.kind(0, 0), 0);
        due("plan", g.plan(1, 1), 1);
        due("turn", g.turn(1, 0), 0);
        due("told hours", g.count(3), 1);
        due("days", g.days(2), 2);
        due("rows", g.count(0), 1);
        due("ended", g.ended(), 1);
        due("where", g.was(1, 0), 1);
        due("the journey's move", g.was(0, 2), 1);
        due("as long as it was", g.was(2, 0), -1);
        due("the law stays", g.told(8), 1);
        due("the tape stays", g.count(2), 20);
        due("status stays", g.status(2), 1);
        due("the land stays", g.told(0), 3);
        g.clear();
        due("on again", g.on(), 1);
        due("rows of that one", g.count(0), 1);
        due("the last", g.on(), 0);
        due("none", g.on(), -1);
        GlassLeaders v = of(SMALL);
        v.image();
        v.kind(0, 3);
        due("value with it", v.value(0, 0, 0, 3), -3);
        v.on();
        due("value without", v.value(0, 0, 0, 3), 9);
        GlassLeaders far = of("place hut;place;person 0;way 0 1;hours 24;");
        far.kind(0, 3);
        far.plan(23, 1);
        far.turn(23, 0);
        for (int i = 0; i < 24; i++) {
            far.row(1);
        }
        due("24 hours", far.run(0), 24);
        due("the image of them", far.image(), 1);
        far.kind(0, 5);
        for (int i = 0; i < 24; i++) {
            far.plan(i, 1);
            far.turn(i, 0);
        }
        far.plan(23, 0);
        far.clear();
        far.row(0);
        due("otherwise", far.run(0), 24);
        due("not at the hut", far.was(23, 0), 1);
        far.on();
        due("the last place", far.was(24, 0), 0);
        due("the last stores", far.was(24, 1), 12);
        due("the last but one place", far.was(23, 0), 0);
        due("the last but one stores", far.was(23, 1), 12);
        due("the last move", far.was(23, 2), 0);
        due("the last plan", far.plan(23, 0), 1);
        due("the last but one plan", far.plan(22, 0), 0);
        due("the last turn", far.turn(23, -1), 0);
        due("the last but one turn", far.turn(22, -1), -1);
        due("all rows", far.count(0), 24);
        tell(far, "rest if 1=2;");
        due("all of them going", far.judge(), -1);
        GlassLeaders n = new GlassLeaders();
        due("an image without a land", n.image(), 1);
        n.days(4);
        due("and on", n.on(), 0);
        due("days as they were", n.days(1), 1);
    }

    private static void counts() {
        promise = 50;
        GlassLeaders g = new GlassLeaders();
        due("status -1", g.status(-1), -1);
        due("status 4", g.status(4), -1);
        refuses(g, "argument", 2, () -> g.told(77));
        refuses(g, "argument again", 2, () -> g.days(0));
        refuses(g, "state", 3, () -> g.all());
        refuses(g, "index", 0, () -> g.kind(0, 0));
        refuses(g, "element", 1, () -> g.snow(0, 0));
        due("index", g.status(0), 1);
        due("element", g.status(1), 1);
        due("argument", g.status(2), 2);
        due("state", g.status(3), 1);
        feed(g, SMALL);
        g.land(SMALL.length());
        due("a land keeps them", g.status(2), 2);
        promise = 51;
        due("count -1", g.count(-1), -1);
        due("count 4", g.count(4), -1);
        g.turn(20, 1);
        g.turn(0, 1);
        due("told hours, also beyond hours", g.count(3), 2);
        g.row(0);
        due("rows", g.count(0), 1);
        g.image();
        due("images", g.count(1), 1);
        feed(g, "x");
        due("bytes", g.count(2), 20);
    }

    public static void main(String[] args) {
        Runnable[] all = {GlassLeadersPromises::newObject, GlassLeadersPromises::feeding,
            GlassLeadersPromises::landing, GlassLeadersPromises::laws, GlassLeadersPromises::tolds,
            GlassLeadersPromises::snows, GlassLeadersPromises::wants, GlassLeadersPromises::kinds,
            GlassLeadersPromises::plans, GlassLeadersPromises::turns, GlassLeadersPromises::daysAndWhose,
            GlassLeadersPromises::withoutLand, GlassLeadersPromises::nexts, GlassLeadersPromises::takesByKind,
            GlassLeadersPromises::values, GlassLeadersPromises::scales, GlassLeadersPromises::together,
            GlassLeadersPromises::journeys, GlassLeadersPromises::rows, GlassLeadersPromises::proofs,
            GlassLeadersPromises::hoursGivenAndTraded, GlassLeadersPromises::roundsAndLengths,
            GlassLeadersPromises::trapsAndForces, GlassLeadersPromises::evers, GlassLeadersPromises::chances,
            GlassLeadersPromises::blindAndAsks, GlassLeadersPromises::pacts, GlassLeadersPromises::minds,
            GlassLeadersPromises::rulesLess, GlassLeadersPromises::votes, GlassLeadersPromises::storesNeeded,
            GlassLeadersPromises::images, GlassLeadersPromises::counts};
        int[] numbers = {1, 2, 3, 4, 6, 7, 8, 9, 10, 11, 12, 13, 14, 15, 16, 17, 18, 20, 23, 26, 27, 30, 32, 34, 35,
            36, 39, 41, 44, 46, 47, 48, 50};
        for (int i = 0; i < all.length; i++) {
            promise = numbers[i];
            all[i].run();
        }
        System.out.println(wrong == 0 ? "all promises are kept" : wrong + " answers are not as due");
        if (wrong != 0) {
            System.exit(1);
        }
    }
}
