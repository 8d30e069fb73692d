/** Promises 3 to 5: lands and laws as texts, their faults with their places, and what conditions say. */
public final class GlassLeadersTexts {
    private static int wrong = 0;

    private static void due(String what, long got, long want) {
        if (got != want) {
            wrong++;
            System.out.println(what + " answered " + got + ", due is " + want);
        }
    }

    private static void feed(GlassLeaders g, String text) {
        for (int at = 0; at < text.length(); at += 20) {
            int[] five = new int[5];
            for (int i = 0; i < 20; i++) {
                int b = at + i < text.length() ? text.charAt(at + i) : 'x';
                five[i / 4] = five[i / 4] << 8 | b;
            }
            g.feed(five[0], five[1], five[2], five[3], five[4]);
        }
    }

    private static void land(String text, int answer, int fault) {
        GlassLeaders g = new GlassLeaders();
        feed(g, text);
        due("land [" + text + "]", g.land(text.length()), answer);
        due("fault of land [" + text + "]", g.fault(), fault);
    }

    private static void law(String text, int answer, int fault) {
        GlassLeaders g = new GlassLeaders();
        feed(g, text);
        due("law [" + text + "]", g.law(text.length()), answer);
        due("fault of law [" + text + "]", g.fault(), fault);
    }

    private static String times(String s, int n) {
        return s.repeat(n);
    }

    private static void landsThatStand() {
        land("place;person 0;", 1, -1);
        land("  place  ;  person0  ;   ", 1, -1);
        land("person 9;place hut;place end;way 0 1;way1 0;", 2, -1);
        land("place;person 0;hours 000000000000000000000000000012;", 1, -1);
        land("place;person 0;hours 1;hours 24;store 1;store 12;lost 0;lost 99;start 0;", 1, -1);
        land(times("place;", 12) + times("person 0;", 5) + times("way 0 1;", 24), 12, -1);
        land("place;place;person 0;way 0 1;" + times("lost 1;", 56), 2, -1);
        land("place;place;person 0;way 0 1;snow 0 0 9 16;snow 0 3 4 1;", 2, -1);
        land("place;place;person 0;way 0 1;snow 0 23 23 1;snow 0 14 22 16;", 2, -1);
        land("place;person 0;wants 0 0 99;wants 0 0 0;", 1, -1);
    }

    private static void whatCannotStand() {
        land("placehut;person 0;", -9, 0);
        land("pl ace;person 0;", -9, 0);
        land("placez;person 0;", -9, 0);
        land("placea;person 0;", -9, 0);
        land("place`;person 0;", -9, 5);
        land("place{;person 0;", -9, 5);
        land("place;person 0/;", -9, 14);
        land("place;person 0:;", -9, 14);
        land("Place;person 0;", -9, 0);
        land(";place;person 0;", -9, 0);
        land("place;;person 0;", -9, 6);
        land("place\n;person 0;", -9, 5);
        land("place hutend;person 0;", -9, 6);
        land("place hut hut;person 0;", -9, 10);
        land("place end hut;person 0;", -9, 10);
        land("place 1;person 0;", -9, 6);
        land("place person 0;", -9, 6);
        land("place;person;", -9, 12);
        land("place;person 1 1;", -9, 15);
        land("place;place;way 0 1 0;person 0;", -9, 20);
        land("place;place;way 01;person 0;", -9, 18);
        land("place;place;way 0,1;person 0;", -9, 17);
        land("place;person 0;hours twelve;", -9, 21);
        land("place;person 0;5;", -9, 15);
        land("place;person 0;huts;", -9, 15);
        land("place;person 0;" + (char) 0, -9, 15);
        land("place;person 0;" + (char) 255, -9, 15);
        land("place;person -1;", -9, 13);
    }

    private static void textsThatEndTooEarly() {
        land("place", -9, 5);
        land("place   ", -9, 8);
        land("person", -9, 6);
        land("place;person 0", -9, 14);
        land("place;place;person 0;way 0", -9, 26);
        land("place;person 0;snow", -9, 19);
        law("rest", -9, 4);
        law("rest if", -9, 7);
        law("go if 1=1", -9, 9);
        law("go if 1=", -9, 8);
        law("go if not", -9, 9);
        law("go if [1=1", -9, 10);
        law("go if (1  ", -9, 10);
    }

    private static void numbersThatAreNone() {
        land("place;person 10;", -8, 13);
        land("place;person 99999999999999999999999;", -8, 13);
        land("place;person 0;hours 0;", -8, 21);
        land("place;person 0;hours 25;", -8, 21);
        land("place;person 0;hours 4294967297;", -8, 21);
        land("place;person 0;store 0;", -8, 21);
        land("place;person 0;store 13;", -8, 21);
        land("place;person 0;lost 100;", -8, 20);
        land("place;person 0;start 1;", -8, 21);
        land("start 0;place;person 0;", -8, 6);
        land("place;person 0;wants 1 0 1;", -8, 21);
        land("place;person 0;wants 0 1 1;", -8, 23);
        land("place;person 0;wants 0 0 100;", -8, 25);
        land("way 0 1;place;place;person 0;", -8, 4);
        land("place;way 0 1;place;person 0;", -8, 12);
        land("place;place;way 1 1;person 0;", -8, 18);
        String two = "place;place;person 0;way 0 1;";
        land(two + "snow 1 0 0 1;", -8, 34);
        land(two + "snow 0 24 24 1;", -8, 36);
        land(two + "snow 0 0 24 1;", -8, 38);
        land(two + "snow 0 5 4 1;", -8, 38);
        land(two + "snow 0 23 24 1;", -8, 39);
        land(two + "snow 0 5 5 0;", -8, 40);
        land(two + "snow 0 5 5 17;", -8, 40);
        land(two + "snow 0 0 10 1;", -8, 38);
        land(two + "snow 0 0 10 99;", -8, 38);
        land(two + "snow 0 0 8 1;snow 0 8 9 1;", 2, -1);
        land(two + "snow 0 0 8 1;snow 0 8 10 1;", -8, 51);
        land(two + "way 0 1;snow 0 0 9 1;snow 1 0 9 1;snow 1 23 23 1;", -8, 73);
    }

    private static void oneTooMany() {
        land(times("place;", 12) + "person 0;place hut;", -7, 81);
        land(times("place;", 13), -7, 72);
        land("place;place;person 0;" + times("way 0 1;", 25), -7, 21 + 24 * 8);
        land("place;" + times("person 1;", 6), -7, 6 + 5 * 9);
        String sixty = "place;person 0;" + times("lost 1;", 58);
        land(sixty, 1, -1);
        land(sixty + "   ", 1, -1);
        land(sixty + " lost 1;", -7, sixty.length() + 1);
        land(sixty + "lost 100;", -7, sixty.length());
        land(sixty + "foo;", -9, sixty.length());
        land(sixty + ";", -9, sixty.length());
        law(times("go if 1=1;", 10), 10, -1);
        law(times("go if 1=1;", 10) + " rest if 1=1;", -7, 101);
        law(times("go if 1=1;", 10) + "if 1=1;", -9, 100);
        law("go if ((((((1))))))=1;", 1, -1);
        law("go if (((((((1)))))))=1;", -7, 12);
        law("rest if not not not not not not 1=1;", 1, -1);
        law("rest if not not not not not not not 1=1;", -7, 32);
        law("go if [[[[[[1=1]]]]]];", 1, -1);
        law("go if not not not [[[1=1]]];", 1, -1);
        law("go if not not not [[[(1)=1]]];", -7, 21);
        law("go if not [not [not [1=1]]] and not [not [not [1=1]]];", 1, -1);
        law("go if not 1=1 and not 1=1 and not 1=1 and not 1=1 and not 1=1 and not 1=1 and not (1)=1;", 1, -1);
        law("go if [(((((1+1)))))=2 and (((((1+1)))))=2];", 1, -1);
        law("go if [((((((1+1))))))=2];", -7, 12);
    }

    private static void nothingThere() {
        land("", -6, 0);
        land("   ", -6, 3);
        land("place;", -6, 6);
        land("person 1;  ", -6, 11);
        land("place;lost 5;", -6, 13);
        law("", 0, -1);
        law("     ", 0, -1);
    }

    private static void lawsThatCannotStand() {
        law("rests if 1=1;", -9, 0);
        law("restif 1=1;", -9, 0);
        law("rest 1=1;", -9, 5);
        law("rest if if 1=1;", -9, 8);
        law("go if 1;", -9, 7);
        law("go if 1=1=1;", -9, 9);
        law("go if (1=1);", -9, 8);
        law("go if [1]=1;", -9, 8);
        law("go if 1 and 1=1;", -9, 8);
        law("go if 1=1 and;", -9, 13);
        law("go if 1=1 or or 1=1;", -9, 13);
        law("go if 1=1 not 1=1;", -9, 10);
        law("go if -1=1;", -9, 6);
        law("go if 1+=1;", -9, 8);
        law("go if 1=hours;", -9, 8);
        law("go if end=1;", -9, 6);
        law("go if not=1;", -9, 9);
        law("go if to to=1;", -9, 9);
        law("go if 1<=1;", -9, 8);
        law("go if [1=1;", -9, 10);
        law("go if (1;", -9, 8);
        law("go if 1=1];", -9, 9);
        law("go if 1=1);", -9, 9);
        law("go if 1=1;;", -9, 10);
        law("go if ()=1;", -9, 7);
        law("go if []", -9, 7);
        law("go if 10000=1;", -8, 6);
        law("go if 1=99999999999999;", -8, 8);
        law("go if 9999=09999;", 1, -1);
        law("go if((hour+left)*stores-hut/leader<place)=0;", -9, 35);
        law(" go if((hour+left)*stores-hut/leader)<place and to>snow;rest if[not hour=1or hour=2];", 2, -1);
    }

    /** Whether a condition holds of resting at place 0 in hour 0 with 5 stores, by whom 0 leads. */
    private static void says(String condition, boolean want) {
        GlassLeaders g = new GlassLeaders();
        String land = "place;place;way 0 1;person 0;person 0;hours 7;store 5;";
        feed(g, land);
        g.land(land.length());
        String law = "rest if " + condition + ";";
        feed(g, law);
        due("law [" + law + "]", g.law(law.length()), 1);
        due("[" + condition + "]", g.next(0, 0, 5), want ? 3 : 2);
    }

    private static void whatConditionsSay() {
        says("2+3*4=14", true);
        says("(2+3)*4=20", true);
        says("10-3-2=5", true);
        says("100/10/5=2", true);
        says("12/2*3=18", true);
        says("7/2=3", true);
        says("(0-7)/2=0-3", true);
        says("5/0=0", true);
        says("0/0<0", false);
        says("9999*9999*9999*9999=" + "0", 9999 * 9999 * 9999 * 9999 == 0);
        says("9999*9999*9999<0", 9999 * 9999 * 9999 < 0);
        says("9999*9999*100<0", 9999 * 9999 * 100 < 0);
        says("8192*8192*32<0", true);
        says("8192*8192*32-1>0", true);
        says("8192*8192*32/(0-1)=8192*8192*32", true);
        says("1<1", false);
        says("1>1", false);
        says("1=1", true);
        says("1<2 and 2>1", true);
        says("1=1 or 1=1 and 1=2", true);
        says("[1=1 or 1=1] and 1=2", false);
        says("1=2 and 1=1 or 1=1", true);
        says("not 1=1 or 1=1", true);
        says("not [1=1 or 1=1]", false);
        says("not not 1=1", true);
        says("not 1=2 and 1=1", true);
        says("hour=0 and left=7 and stores=5 and hut=0 and leader=0 and place=0 and to=0 and snow=0", true);
    }

    private static GlassLeaders with(String land, String law) {
        GlassLeaders g = new GlassLeaders();
        feed(g, land);
        if (g.land(land.length()) < 0) {
            due("land [" + land + "] has a fault, at " + g.fault(), 1, 0);
        }
        feed(g, law);
        if (g.law(law.length()) < 0) {
            due("law [" + law + "] has a fault, at " + g.fault(), 1, 0);
        }
        return g;
    }

    private static void whatWordsMean() {
        String land = "place;place hut;place;way 0 1;way 1 2;way 0 2;person 0;person 0;person 0;"
                + "hours 9;store 6;snow 1 3 4 5;snow 2 4 4 16;";
        due("hour", with(land, "go if hour=3;").next(1, 3, 6), 7);
        due("hour, another", with(land, "go if hour=3;").next(1, 4, 6), 1);
        due("left", with(land, "go if left=1;").next(1, 8, 6), 7);
        due("left, another", with(land, "go if left=1;").next(1, 7, 6), 1);
        due("stores", with(land, "go if stores=2;").next(0, 0, 2), 11);
        due("stores, other", with(land, "go if stores=2;").next(0, 0, 3), 1);
        due("hut, at one", with(land, "go if hut=1;").next(1, 0, 3), 7);
        due("hut, elsewhere", with(land, "go if hut=1;").next(0, 0, 3), 1);
        due("leader", with(land, "go if leader=2;").next(0, 2, 3), 11);
        due("leader, another", with(land, "go if leader=2;").next(0, 3, 3), 1);
        due("place", with(land, "go if place=2;").next(2, 0, 3), 13);
        due("place, another", with(land, "go if place=2;").next(1, 0, 3), 1);
        due("to, forth", with(land, "go if to=2;").next(0, 0, 3), 9);
        due("to, back", with(land, "go if to=0;").next(2, 0, 3), 9);
        due("to of resting", with(land, "rest if to=2;").next(2, 0, 3), 13);
        due("to of resting elsewhere", with(land, "rest if to=2;").next(0, 0, 3), 10);
        due("snow", with(land, "go if snow=5;").next(2, 3, 3), 5);
        due("snow of another hour", with(land, "go if snow=5;").next(2, 2, 3), 1);
        due("snow, all", with(land, "go if snow=16;").next(2, 4, 3), 9);
        due("snow of resting", with(land, "rest if snow=0;").next(2, 4, 3), 13);
        due("all rules of going", with(land, "go if to>0;go if to<2;").next(0, 0, 3), 3);
        due("rules of resting are none of going", with(land, "rest if 1=2;").next(0, 0, 3), 10);
        due("rules of going are none of resting", with(land, "go if 1=2;").next(0, 0, 3), 1);
        due("forced rest", with(land, "go if 1=2;rest if 1=2;").next(0, 0, 3), 1);
    }

    /** Whatever stands on the tape: an answer, never an exception, and a place in the text. */
    private static void anyBytes() {
        java.util.Random r = new java.util.Random(4);
        String[] bits = {"place", "hut", "end", "way", "snow", "person", "wants", "hours", "store", "lost", "start",
            "rest", "go", "if", "or", "and", "not", "[", "]", "<", ">", "=", "+", "-", "*", "/", "hour", "left",
            "stores", "leader", "to", "(", ")", "0", "1", "2", "12", "9999", ";", ";", ";", " ", "  ", "Q", "\u00ff"};
        GlassLeaders g = new GlassLeaders();
        for (int i = 0; i < 20000; i++) {
            StringBuilder b = new StringBuilder();
            for (int n = r.nextInt(60); n > 0 && b.length() < 590; n--) {
                b.append(bits[r.nextInt(bits.length)]).append(r.nextBoolean() ? " " : "");
            }
            feed(g, b.toString());
            int answer = i % 2 == 0 ? g.land(b.length()) : g.law(b.length());
            int fault = g.fault();
            due("a fault's place or none [" + b + "]",
                    answer < 0 == (fault >= 0 && fault <= b.length()) && answer >= -9 && answer < 13 ? 1 : 0, 1);
        }
    }

    public static void main(String[] args) {
        landsThatStand();
        whatCannotStand();
        textsThatEndTooEarly();
        numbersThatAreNone();
        oneTooMany();
        nothingThere();
        lawsThatCannotStand();
        whatConditionsSay();
        whatWordsMean();
        anyBytes();
        System.out.println(wrong == 0 ? "all texts are read as due" : wrong + " answers are not as due");
        if (wrong != 0) {
            System.exit(1);
        }
    }
}
