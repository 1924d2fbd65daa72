/** The document's terms, sentence by sentence: the edges that each names, and a step beyond them. */
final class TermsTest {
    private static final Check C = new Check();
    private static final int MIN = Integer.MIN_VALUE;
    private static final int MAX = Integer.MAX_VALUE;
    private static final String MILLIARD = "1000*1000*1000";
    private static Sentences say;

    public static void main(String[] args) throws Exception {
        say = new Sentences(C);
        boxesAndRoads();
        cloudsAndFolk();
        fullCircuit();
        heardAndTerms();
        joined();
        refused();
        tape();
        tokens();
        clauses();
        tests();
        sums();
        limits();
        textsInTurn();
        faults();
        broken();
        laws();
        lawWords();
        whatALawSays();
        orders();
        orderWords();
        ordersRun();
        deeds();
        ahead();
        answered();
        canBeAndAsk();
        waysAndParts();
        leaveNeededFair();
        fewAndCompared();
        seasons();
        rows();
        images();
        say.closeTerms();
        C.close("TermsTest");
    }

    /** Boxes 0 to 5 in a ring of roads of length 1. */
    private static CloudCalls circle() {
        CloudCalls x = new CloudCalls();
        for (int b = 0; b < 6; b++) {
            x.road(b, (b + 1) % 6, 1);
        }
        return x;
    }

    /** Two boxes with a road, a cloud and one of the folk in each; cloud 0 rages 3, cloud 1 rages 5. */
    private static CloudCalls village() {
        CloudCalls x = new CloudCalls();
        x.cloud(0, 3, 0);
        x.cloud(1, 5, 1);
        x.folk(0, 3);
        x.folk(1, 2);
        x.road(0, 1, 1);
        return x;
    }

    private static CloudCalls under(CloudCalls x, String law) {
        int number = Check.law(x, law);
        C.holds("'" + law + "' is a law", number >= 0);
        x.force(number);
        return x;
    }

    /** What a law tells of cloud 1 (kind 2, rage 6, box 3) and folk 1 (ears for it, wet 4), night 7, mood 8. */
    private static int told(String law) {
        CloudCalls x = new CloudCalls();
        x.cloud(0, 0, 0);
        x.cloud(2, 6, 3);
        x.folk(0, 0);
        x.folk(3, 4);
        x.terms(0, 7);
        x.terms(2, 8);
        under(x, "soaks 4");
        x.engage(1);
        x.ring(1, 1);
        under(x, law);
        return x.asks(1, 1, 0);
    }

    private static void tells(String law, int want) {
        C.due("'" + law + "' tells", told(law), want);
    }

    /** Whether a test is so: 1, not so: 0, BROKEN: -1. */
    private static void test(String test, int want) {
        int so = told("tells 0; tells 1 if " + test);
        int notSo = told("tells 0; tells 1 if not (" + test + ")");
        C.due("'" + test + "' is", so == notSo ? -1 : so, want);
    }

    private static void lawFault(String text, int want) {
        C.due("fault of law '" + text + "'", Check.lawFault(text), want);
    }

    private static void ordersFault(String text, int want) {
        C.due("fault of orders '" + text + "'", Check.ordersFault(text), want);
    }

    // ---- I

    private static void boxesAndRoads() {
        say.term("I", "BOXES 0 .. 5: SMASHED or not (at first)");
        CloudCalls x = new CloudCalls();
        for (int b = 0; b <= 5; b++) {
            C.due("box " + b + " is not smashed", x.box(b, 0), 0);
            C.due("it can be", x.smash(b), 1);
            C.due("it is", x.box(b, 0), 1);
        }
        C.due("all six", x.count(2), 63);
        for (int b : new int[] {-1, 6, MIN, MAX}) {
            C.due("box", x.box(b, 0), -1);
            C.due("smash", x.smash(b), -1);
            C.due("cloud", x.cloud(0, 0, b), -1);
            C.due("folk", x.folk(b, 0), -1);
            C.due("road from", x.road(b, 0, 1), -1);
            C.due("road to", x.road(0, b, 1), -1);
            C.due("first", x.first(b, 0), -1);
            C.due("way from", x.way(b, 0, -1), -1);
            C.due("way to", x.way(0, b, -1), -1);
            C.due("part one", x.part(b, 0, 0), -1);
            C.due("part other", x.part(0, b, 0), -1);
        }
        C.due("all six still", x.count(2), 63);
        say.term("I", "ROADS between two of them, both ways, LONG 1 .. 9, or none (at first).");
        x = new CloudCalls();
        for (int one = 0; one < 6; one++) {
            for (int other = 0; other < 6; other++) {
                C.due("none at first", x.box(one, 2 + other), 0);
            }
        }
        for (int length : new int[] {1, 9}) {
            x.road(2, 5, length);
            C.due("from 2", x.box(2, 7), length);
            C.due("from 5", x.box(5, 4), length);
        }
        C.due("longer", x.road(2, 5, 10), -1);
        C.due("shorter", x.road(2, 5, -1), -1);
        C.due("it stays", x.box(2, 7), 9);
        C.due("none", x.road(5, 2, 0), 9);
        C.due("none, both ways", x.box(2, 7) + x.box(5, 4), 0);
    }

    private static void cloudsAndFolk() {
        say.term("I", "CLOUDS 0 .. 5 (6 at most): a KIND 0 .. 4, RAGE 0 .. 9, AT a BOX.");
        CloudCalls x = new CloudCalls();
        int[][] wrong = {{-1, 0, 0}, {5, 0, 0}, {0, -1, 0}, {0, 10, 0}, {0, 0, -1}, {0, 0, 6}, {MIN, 0, 0}, {MAX, 0, 0}, {0, MIN, 0}, {0, MAX, 0}};
        for (int[] w : wrong) {
            C.due("cloud(" + w[0] + ", " + w[1] + ", " + w[2] + ")", x.cloud(w[0], w[1], w[2]), -1);
        }
        C.due("none came", x.count(0), 0);
        C.due("the least", x.cloud(0, 0, 0), 0);
        C.due("the most", x.cloud(4, 9, 5), 1);
        C.due("kind", x.of(1, 0), 4);
        C.due("rage", x.of(1, 1), 9);
        C.due("box", x.of(1, 2), 5);
        for (int c = 2; c < 6; c++) {
            C.due("cloud", x.cloud(c - 1, c, c), c);
        }
        C.due("no seventh", x.cloud(0, 0, 0), -5);
        C.due("six", x.count(0), 6);
        C.due("the sixth", x.of(5, 0), 4);
        C.due("no cloud 6", x.of(6, 0), -1);
        say.term("I", "FOLK 0 .. 4 (5 at most): live BY a BOX");
        x = new CloudCalls();
        for (int f = 0; f < 5; f++) {
            C.due("folk", x.folk(5 - f, 0), f);
            C.due("her box", x.at(f, 0), 5 - f);
        }
        C.due("no sixth", x.folk(0, 0), -5);
        C.due("five", x.count(1), 5);
        C.due("no folk 5", x.at(5, 0), -1);
        say.term("I", "EARS for KINDS, as bits 0 .. 31");
        x = new CloudCalls();
        C.due("below", x.folk(0, -1), -1);
        C.due("beyond", x.folk(0, 32), -1);
        C.due("none", x.folk(0, 0), 0);
        C.due("all", x.folk(0, 31), 1);
        x.folk(0, 16);
        x.folk(0, 1);
        for (int kind = 0; kind < 5; kind++) {
            x.cloud(kind, 7, 0);
            C.due("no ears", x.asks(kind, 0, 0), 0);
            C.due("all ears", x.asks(kind, 1, 0), 7);
            C.due("for kind 4", x.asks(kind, 2, 0), kind == 4 ? 7 : 0);
            C.due("for kind 0", x.asks(kind, 3, 0), kind == 0 ? 7 : 0);
        }
        say.term("I", "ENGAGED or not (at first)");
        C.due("not at first", x.at(0, 2), 0);
        C.due("engaged", x.engage(0), 1);
        C.due("engaged", x.at(0, 2), 1);
        say.term("I", "WET, KNOWING 0 .. 999 (0 at first).");
        x = under(village(), "tells 9; soaks 8");
        C.due("wet at first", x.at(0, 3), 0);
        C.due("knowing at first", x.at(0, 4), 0);
        C.due("all but one", Check.orders(x, "ring 0 to 0 times 20; ring 0 to 0 times 20; ring 0 to 0 times 20; ring 0 to 0 times 20; ring 0 to 0 times 20; ring 0 to 0 times 10"), 110);
        C.due("knowing", x.at(0, 4), 990);
        x.ring(0, 0);
        C.due("999", x.at(0, 4), 999);
        x.ring(0, 0);
        C.due("no more", x.at(0, 4), 999);
        x.engage(0);
        Check.orders(x, "ring 0 to 0 times 20; ring 0 to 0 times 20; ring 0 to 0 times 20; ring 0 to 0 times 20; ring 0 to 0 times 20; ring 0 to 0 times 20");
        C.due("wet", x.at(0, 3), 960);
        Check.orders(x, "ring 0 to 0 times 5");
        C.due("cut", x.at(0, 3), 999);
        C.due("knowing is as it was", x.at(0, 4), 999);
    }

    /** Six clouds in boxes 5 down to 0, five of the folk by boxes 1 to 5, all with all ears. */
    private static CloudCalls full() {
        CloudCalls x = circle();
        for (int c = 0; c < 6; c++) {
            x.cloud(c % 5, c + 1, 5 - c);
        }
        for (int f = 0; f < 5; f++) {
            x.folk(f + 1, 31);
        }
        return x;
    }

    private static void fullCircuit() {
        say.term("I", "CLOUDS 0 .. 5 (6 at most)");
        CloudCalls x = full();
        C.due("a night", x.pass(), 1);
        for (int c = 0; c < 6; c++) {
            C.due("it went", x.of(c, 2), (6 - c) % 6);
            C.due("it goes on", x.of(c, 3), (7 - c) % 6);
            C.due("where", x.where(c, 4), (10 - c) % 6);
        }
        C.due("undone", x.undo(), 3);
        for (int c = 0; c < 6; c++) {
            C.due("it is back", x.of(c, 2), 5 - c);
            C.due("first in its box", x.first(5 - c, 1), c);
        }
        C.due("again", x.again(), 6);
        C.due("the last two do not meet", x.meeting(4, 5), -1);
        C.due("cloud 5 by 4, all but cloud 0", x.answered(6), 4);
        C.due("nobody", x.answered(1), 5);
        C.due("how much", x.answered(0), 20);
        C.due("can be", x.canBe(), 63);
        C.due("ask", x.ask(0) * 10 + x.ask(1), 1);
        C.due("at", Check.orders(x, "pass if at 0=5 and at 1=4 and at 2=3 and at 3=2 and at 4=1 and at 5=0; pass if at 5=1"), 2);
        C.holds("seasons", x.seasons(11, 6) >= 0);
        for (int c = 0; c < 6; c++) {
            C.due("two nights and six on", x.drawn(c, 0), (7 - c) % 6);
        }
        say.term("I", "FOLK 0 .. 4 (5 at most)");
        x = full();
        for (int f = 0; f < 5; f++) {
            C.due("told", x.ring(f, f), f + 1);
            C.due("engaged", x.engage(f), 1);
            C.due("soaked", x.ring(5, f), 6);
        }
        C.due("all knowing", x.count(3), 15);
        C.due("all wet", x.count(4), 30);
        C.due("busy", Check.orders(x, "pass if busy 0=1 and busy 1=1 and busy 2=1 and busy 3=1 and busy 4=1 and learnt=15 and soaked=30"), 1);
        // 1 2 3 4 5 to each in turn, then 6 to the one with 1.
        int[] shares = {7, 2, 3, 4, 5};
        for (int f = 0; f < 5; f++) {
            C.due("fair", x.fair(f), shares[f]);
        }
        C.due("answered by none of them", x.answered(0), 0);
        C.due("leave", x.leave(0) * 100 + x.leave(1), 562);
        C.due("heard by the last", x.heard(4, 6), 1);
        C.due("can be", x.canBe(), 32);
    }

    private static void heardAndTerms() {
        say.term("I", "HEARD, 6 at most: a cloud nobody knows told one of the FOLK 0 .. 9.");
        CloudCalls x = village();
        C.due("below", x.heard(0, -1), -1);
        C.due("beyond", x.heard(0, 10), -1);
        C.due("nothing yet", x.count(5), 0);
        for (int i = 1; i <= 6; i++) {
            C.due("heard", x.heard(i % 2, i == 1 ? 0 : 9), i);
        }
        C.due("no seventh", x.heard(0, 9), -5);
        C.due("six", x.count(5), 6);
        int[] tops = {999, 10, 9};
        int[] first = {0, 1, 0};
        String[] quotes = {"TERMS: 0 NIGHT 0 .. 999 (0 at first)", "1 FADES 0 .. 10 (1)", "2 MOOD 0 .. 9 (0)."};
        for (int t = 0; t < 3; t++) {
            say.term("I", quotes[t]);
            x = new CloudCalls();
            C.due("at first", x.count(15 + t), first[t]);
            C.due("the most", x.terms(t, tops[t]), first[t]);
            C.due("one more", x.terms(t, tops[t] + 1), -1);
            C.due("it stays", x.count(15 + t), tops[t]);
            C.due("the least", x.terms(t, 0), tops[t]);
            C.due("one less", x.terms(t, -1), -1);
            C.due("far off", x.terms(t, MAX), -1);
            C.due("far off", x.terms(t, MIN), -1);
            C.due("it stays", x.count(15 + t), 0);
        }
    }

    private static void joined() {
        say.term("I", "Two BOXES are JOINED, if one comes from the one to the other by ROADS over BOXES that are not SMASHED (both of them, too; one that is not SMASHED to itself).");
        CloudCalls x = new CloudCalls();
        for (int b = 0; b < 5; b++) {
            x.road(b, b + 1, 9);
        }
        C.due("from end to end", x.box(0, 1), 62);
        C.due("and back", x.box(5, 1), 31);
        x.cloud(0, 1, 0);
        x.folk(5, 1);
        x.folk(0, 1);
        C.due("ring from end to end", x.asks(0, 0, 2), 1);
        C.due("ring at home", x.asks(0, 1, 2), 1);
        for (int b = 1; b < 5; b++) {
            x.smash(b);
            C.due("smashed between", x.asks(0, 0, 2), 0);
            C.due("up to it", x.box(0, 1), (1 << b) - 2);
            C.due("behind it", x.box(5, 1), 31 & ~((2 << b) - 1));
            x.smash(b);
        }
        x.smash(0);
        C.due("the one is smashed", x.asks(0, 0, 2), 0);
        C.due("a smashed one to itself", x.asks(0, 1, 2), 0);
        C.due("a smashed one to none", x.box(0, 1), 0);
        x.smash(0);
        x.smash(5);
        C.due("the other is smashed", x.asks(0, 0, 2), 0);
        C.due("others are joined", x.box(0, 1), 30);
        x.smash(5);
        x.road(2, 3, 0);
        C.due("no road", x.box(0, 1), 6);
        C.due("no road", x.asks(0, 0, 2), 0);
    }

    private static void refused() {
        say.term("I", "REFUSED by: -1 a number that can't be; -2 there is no such CLOUD, FOLK, LAW, IMAGE; -3 it can't be by what stands; -5 no room; -6 a TEXT, a ROW that can't be.");
        CloudCalls x = new CloudCalls();
        C.due("-1", x.cloud(9, 0, 0), -1);
        C.due("no cloud", x.ring(0, 0), -2);
        x.cloud(0, 1, 0);
        C.due("no folk", x.ring(0, 0), -2);
        C.due("no folk", x.engage(0), -2);
        C.due("no folk", x.heard(0, 0), -2);
        C.due("no law", x.force(0), -2);
        C.due("no image", x.back(0), -2);
        C.due("-3", x.undo(), -3);
        for (int i = 0; i < 5; i++) {
            x.cloud(0, 0, 0);
        }
        C.due("-5", x.cloud(0, 0, 0), -5);
        C.due("a text", x.law(), -6);
        C.due("a text", x.orders(), -6);
        C.due("a row", x.row(), -6);
        say.term("I", "The first of these in that order.");
        C.due("cloud: -1 ahead of -5", x.cloud(0, 0, 6), -1);
        C.due("heard: -1 ahead of -2", x.heard(0, 10), -1);
        C.due("seasons: -1 ahead of -3", x.seasons(-1, 1), -1);
        C.due("seasons: -1 ahead of -3", x.seasons(0, 61), -1);
        C.due("back: -1 ahead of -2", x.back(2), -1);
        for (int i = 0; i < 5; i++) {
            x.folk(5, 0);
        }
        C.due("folk: -1 ahead of -5", x.folk(0, 32), -1);
        C.due("ring: -2 ahead of -3", x.ring(6, 0), -2);
        C.due("ring: -2 ahead of -3", x.ring(0, 5), -2);
        C.due("ring: -3", x.ring(0, 0), -3);
        for (int i = 0; i < 6; i++) {
            x.heard(0, 0);
            Check.law(x, "bars");
        }
        C.due("heard: -1 ahead of -5", x.heard(0, -1), -1);
        C.due("heard: -2 ahead of -5", x.heard(5, 0), -2);
        C.due("heard: -5", x.heard(4, 0), -5);
        C.due("law: -5 ahead of -6", Check.law(x, "x"), -5);
    }

    // ---- II

    private static void tape() {
        say.term("II", "TEXTS are on a TAPE of at most 400 bytes.");
        String blanks = " ".repeat(400);
        lawFault(("bars" + blanks).substring(0, 400), -1);
        lawFault(("tells" + blanks).substring(0, 400), 400);
        lawFault(blanks.substring(4) + "bars", -1);
        lawFault(blanks.substring(1) + "x", 399);
        CloudCalls x = new CloudCalls();
        Check.feed(x, blanks);
        C.due("no more", x.feed(0, 0, 0, 0, 0), -1);
        C.due("400", x.count(8), 400);
    }

    private static void tokens() {
        say.term("II", "TOKENS: longest rows of letters a .. z, of digits, single other bytes, any blanks (32) between.");
        lawFault("tells1if2<3and not4=5or6>7", -1);
        lawFault("   tells   [   1   ]   ;   bars   ", -1);
        lawFault("barsif1=1", 0);
        for (char letter = 'a'; letter <= 'z'; letter++) {
            lawFault("bars" + letter, 0);
            lawFault("tells mood" + letter, 6);
        }
        for (char digit = '0'; digit <= '9'; digit++) {
            lawFault("tells 100" + digit, digit == '0' ? -1 : 6);
        }
        lawFault("bars if 1=1 andnot 1=1", 12);
        lawFault("tells 10 00", 9);
        lawFault("tells 1000", -1);
        lawFault("tells 1001", 6);
        lawFault("tells ka", 6);
        lawFault("te lls 1", 0);
        lawFault("tells mood9", 10);
        lawFault("tells 9mood", 7);
        lawFault("tells [[1]]", -1);
        lawFault("bars;;bars", 5);
        // The neighbours of a, z, 0, 9 and of the blank, and the ends of what a byte can be.
        for (int sign : new int[] {'a' - 1, 'z' + 1, ':', 'A', 'Z', 31, 33, 9, 10, 13, 0, 127, 128, 160, 255}) {
            lawFault("bars" + (char) sign, 4);
            lawFault("bars " + (char) sign + (char) sign, 5);
            lawFault("tells 1" + (char) sign, 7);
        }
        lawFault("tells 1/2", -1);
        lawFault("tells 0+9", -1);
        ordersFault("pass times20if1=1", -1);
        ordersFault("engage at0+busy0", -1);
        ordersFault("engage at 0 0", 12);
    }

    private static void clauses() {
        say.term("II", "Of both languages: CLAUSE {\";\" CLAUSE}, 12 at most (FAULT at the 13th's first TOKEN).");
        for (String word : new String[] {"bars", "pass"}) {
            boolean law = word.equals("bars");
            String twelve = word + (";" + word).repeat(11);
            String[] texts = {word, word + ";" + word, twelve, twelve + ";", twelve + ";" + word, twelve + " ;  " + word, twelve + ";x",
                twelve + ";;", twelve + "; ", word + ";", ";" + word, word + " " + word, word + ";" + word + ",", twelve + " " + word};
            int[] faults = {-1, -1, -1, 60, 60, 63, 60, 60, 61, 5, 0, 5, 9, 60};
            for (int i = 0; i < texts.length; i++) {
                C.due("fault of '" + texts[i] + "'", law ? Check.lawFault(texts[i]) : Check.ordersFault(texts[i]), faults[i]);
            }
        }
        tells("tells 1;tells 2;tells 3;tells 4;tells 5;tells 6;tells 7;tells 8;tells 1;tells 2;tells 3;tells 4", 4);
        C.due("all twelve are run", Check.orders(new CloudCalls(), "pass" + ";pass".repeat(11)), 12);
    }

    private static void tests() {
        say.term("II", "TEST: BOTH {\"or\" BOTH}.");
        test("1=1", 1);
        test("1=2", 0);
        test("1=2 or 1=1", 1);
        test("1=2 or 1=3 or 1=1", 1);
        test("1=2 or 1=3 or 1=4", 0);
        lawFault("bars if 1=1 or", 14);
        lawFault("bars if or 1=1", 8);
        lawFault("bars if 1=1 or or 1=1", 15);
        say.term("II", "BOTH: PLAIN {\"and\" PLAIN}.");
        test("1=1 and 2=2 and 3=3", 1);
        test("1=1 and 2=2 and 3=4", 0);
        test("1=2 and 2=2 or 3=3", 1);
        test("3=3 or 1=2 and 2=2", 1);
        test("1=1 or 1=1 and 1=2", 1);
        test("1=2 and 1=1 or 1=2", 0);
        lawFault("bars if 1=1 and", 15);
        lawFault("bars if and 1=1", 8);
        say.term("II", "PLAIN: \"not\" PLAIN | \"(\" TEST \")\" | SUM (\"<\" | \">\" | \"=\") SUM.");
        test("not 1=1", 0);
        test("not not 1=1", 1);
        test("not not not 1=1", 0);
        test("not 1=2 and 1=2", 0);
        test("not 1=1 or 1=1", 1);
        test("not (1=1 or 1=1)", 0);
        test("(1=1 or 1=1) and 1=2", 0);
        test("((1=1))", 1);
        test("1<2", 1);
        test("2<2", 0);
        test("3<2", 0);
        test("1>2", 0);
        test("2>2", 0);
        test("3>2", 1);
        test("1=2", 0);
        test("2=2", 1);
        test("3=2", 0);
        test("1+1=4-2", 1);
        lawFault("bars if not", 11);
        lawFault("bars if ()", 9);
        lawFault("bars if (1=1", 12);
        lawFault("bars if (1=1]", 12);
        lawFault("bars if (1)=1", 10);
        lawFault("bars if 1", 9);
        lawFault("bars if 1<", 10);
        lawFault("bars if 1<2<3", 11);
        lawFault("bars if 1==1", 10);
        lawFault("bars if 1<=1", 10);
        lawFault("bars if not 1", 13);
        lawFault("bars if " + "not ".repeat(97) + "1=1", -1);
        C.due("'not' 93 times", told("tells 0; tells 1 if " + "not ".repeat(93) + "1=2"), 1);
    }

    private static void sums() {
        say.term("II", "SUM: TERM {(\"+\" | \"-\") TERM}.");
        tells("tells 9-3-2", 4);
        tells("tells 9-3+2", 8);
        tells("tells 1+2+3", 6);
        lawFault("tells +1", 6);
        lawFault("tells -1", 6);
        lawFault("tells 1+", 8);
        lawFault("tells 1-+1", 8);
        say.term("II", "TERM: PART {(\"*\" | \"/\" | \"%\") PART}.");
        tells("tells 8/2*2", 8);
        tells("tells 8*2/4", 4);
        tells("tells 17%10/2", 3);
        tells("tells 17/2%3", 2);
        tells("tells 1+2*3", 7);
        tells("tells 2*3+1", 7);
        tells("tells 9-8/4-2%2", 7);
        lawFault("tells *1", 6);
        lawFault("tells 1*", 8);
        lawFault("tells 1%%1", 8);
        say.term("II", "PART: NUMBER (to 1,000) | \"[\" SUM \"]\" | a word, as told.");
        lawFault("tells 0", -1);
        lawFault("tells 1000", -1);
        lawFault("tells 1001", 6);
        lawFault("tells 9999", 6);
        lawFault("tells 2147483648", 6);
        lawFault("tells 4294967297", 6);
        lawFault("tells 18446744073709551617", 6);
        lawFault("tells 00000000000000001000", -1);
        lawFault("tells 00000000000000001001", 6);
        tells("tells 1000-999", 1);
        tells("tells 0007", 7);
        tells("tells [1+2]*[4-1]", 9);
        tells("tells 9-[3-2]", 8);
        tells("tells [[[7]]]", 7);
        tells("tells rage", 6);
        lawFault("tells []", 7);
        lawFault("tells [1", 8);
        lawFault("tells [1)", 8);
        lawFault("tells (1)", 6);
        lawFault("tells [1=1]", 8);
        lawFault("tells if", 6);
        lawFault("tells tells", 6);
    }

    private static void limits() {
        say.term("II", "50 PARTS that are NUMBERS and words (FAULT at the 51st)");
        String fifty = "tells 1" + "+rage+1".repeat(24) + "+1";
        lawFault(fifty, -1);
        lawFault(fifty + "+1", fifty.length() + 1);
        lawFault(fifty + "+mood", fifty.length() + 1);
        lawFault(fifty + " if 1=1", fifty.length() + 4);
        lawFault(fifty + ";bars;bars if 1=1", fifty.length() + 14);
        String[] clause = {"tells 1+1+1+1 if 1=1;", "tells 1+1+1+1 if not ([1]<1);"};
        lawFault(clause[0].repeat(8) + "bars if 1=1", -1);
        lawFault(clause[0].repeat(8) + "bars if 1=1+1", clause[0].length() * 8 + 12);
        lawFault(clause[1].repeat(8) + "bars if 1=1+1", clause[1].length() * 8 + 12);
        String of = "engage 1" + "+at 5+busy 4".repeat(24) + "+1";
        ordersFault(of, -1);
        ordersFault(of + " times 20", -1);
        ordersFault(of + "+at 5", of.length() + 1);
        ordersFault(of + "+at 9", of.length() + 1);
        ordersFault(of + ";pass times 3;pass if 1=1", of.length() + 22);
        say.term("II", "8 brackets of both kinds within one another (FAULT at the 9th) at most.");
        lawFault("tells " + "[".repeat(8) + "1" + "]".repeat(8), -1);
        lawFault("tells " + "[".repeat(9) + "1" + "]".repeat(9), 14);
        lawFault("bars if " + "(".repeat(8) + "1=1" + ")".repeat(8), -1);
        lawFault("bars if " + "(".repeat(9) + "1=1" + ")".repeat(9), 16);
        lawFault("bars if " + "(".repeat(5) + "[[[1]]]=[[[1]]]" + ")".repeat(5), -1);
        lawFault("bars if " + "(".repeat(5) + "1=[[[[1]]]]" + ")".repeat(5), 18);
        lawFault("bars if " + "(".repeat(7) + "not (1=1)" + ")".repeat(7), -1);
        lawFault("bars if " + "(".repeat(8) + "not (1=1)" + ")".repeat(8), 20);
        lawFault("tells [1]+[1]+[1]+[1]+[1]+[1]+[1]+[1]+[1]+[1]", -1);
        lawFault("tells [[[[[[[[1]]]]]]]]+[[[[[[[[1]]]]]]]]", -1);
        lawFault("tells [[[[1]]]] if (((((1=1)))))", -1);
        ordersFault("ring " + "[".repeat(8) + "1" + "]".repeat(8) + " to " + "[".repeat(8) + "1" + "]".repeat(8), -1);
        ordersFault("ring 1 to " + "[".repeat(9) + "1" + "]".repeat(9), 18);
        tells("tells [1+[1+[1+[1+[1+[1+[1+[1]]]]]]]]", 8);
        test("1=1 and (2=2 and (3=3 and (4=4 and (5=5 and (6=6 and [[7]]=7)))))", 1);
    }

    private static void textsInTurn() {
        say.term("II", "50 PARTS that are NUMBERS and words (FAULT at the 51st), 8 brackets of both kinds within one another (FAULT at the 9th) at most.");
        CloudCalls x = new CloudCalls();
        x.image(0);
        for (int i = 0; i < 12; i++) {
            C.due("each text has fifty", Check.orders(x, "smash [1]" + "*1".repeat(45) + " if (1=1 and 2=2)"), 1);
            C.due("each is run", x.count(2), 2);
            C.due("each has no more", Check.orders(x, "smash [1]" + "*1".repeat(46) + " if (1=1 and 2=2)"), -6);
            Check.law(x, "tells [[[[[[[[1]]]]]]]]" + "+1".repeat(47) + " if 1=1");
            C.due("each law has fifty", x.status() * 100 + x.fault(), -1);
            x.back(0);
        }
    }

    private static void faults() {
        say.term("II", "FAULT: the first TOKEN that can't go on there (the end's: the TEXT's length).");
        lawFault("", 0);
        lawFault(" ", 1);
        lawFault("tells", 5);
        lawFault("tells   ", 8);
        lawFault("  tells x y", 8);
        lawFault("tells 1 x", 8);
        lawFault("tells 1 +   x", 12);
        lawFault("bars x;x", 5);
        lawFault("bars if 1=1 x", 12);
        lawFault("bars;soaks", 10);
        lawFault("bars; soaks 1001; x", 12);
        ordersFault("", 0);
        ordersFault("   ", 3);
        ordersFault("ring 1 to", 9);
        ordersFault("ring 1 to ", 10);
        ordersFault("smash 1; ring 1 tu 1", 16);
        ordersFault("pass times  21", 12);
    }

    private static void broken() {
        say.term("II", "Beyond 1,000,000,000 either way, or divided by 0");
        tells("tells 1; tells " + MILLIARD, 9);
        tells("tells 1; tells " + MILLIARD + "+0", 9);
        tells("tells 1; tells " + MILLIARD + "+1", 1);
        tells("tells 1; tells 1+" + MILLIARD, 1);
        tells("tells 1; tells " + MILLIARD + "+1-1", 1);
        tells("tells 1; tells 0-" + MILLIARD, 0);
        tells("tells 1; tells 0-" + MILLIARD + "-1", 1);
        tells("tells 1; tells 0-" + MILLIARD + "-1+1", 1);
        tells("tells 1; tells 0-[" + MILLIARD + "+1]", 1);
        tells("tells 1; tells " + MILLIARD + "*2", 1);
        tells("tells 1; tells " + MILLIARD + "*" + MILLIARD, 1);
        tells("tells 1; tells " + MILLIARD + "*1000*1000*1000*1000/1000", 1);
        tells("tells 1; tells [0-" + MILLIARD + "]*1000", 1);
        tells("tells 1; tells [" + MILLIARD + "-1]/1000/1000/100", 9);
        tells("tells 5; tells 1/0", 5);
        tells("tells 5; tells 0/0", 5);
        tells("tells 5; tells 1%0", 5);
        tells("tells 5; tells 0%0", 5);
        tells("tells 5; tells 1/[1-1]", 5);
        tells("tells 5; tells 0*[1/0]", 5);
        tells("tells 5; tells 0/7", 0);
        say.term("II", "(/ cut towards 0, % what is left then)");
        int[][] pairs = {{7, 2}, {-7, 2}, {7, -2}, {-7, -2}, {6, 7}, {-6, 7}, {6, -7}, {-6, -7}, {6, 3}, {-6, 3}, {0, 5}, {0, -5}};
        for (int[] p : pairs) {
            String one = p[0] < 0 ? "[0-" + -p[0] + "]" : "" + p[0];
            String other = p[1] < 0 ? "[0-" + -p[1] + "]" : "" + p[1];
            tells("tells 5+" + one + "/" + other, 5 + p[0] / p[1]);
            int left = p[0] - p[0] / p[1] * p[1];
            test(one + "%" + other + "=0" + (left < 0 ? "-" + -left : "+" + left), 1);
        }
        tells("tells [0-7]/2+9", 6);
        tells("tells [0-7]%2+9", 8);
        tells("tells 7%[0-2]+1", 2);
        say.term("II", "a SUM, a TEST is BROKEN");
        test("1/0=1", -1);
        test("1=1/0", -1);
        test("1<1/0", -1);
        test("1%0>1", -1);
        test(MILLIARD + "+1>0", -1);
        test("0-" + MILLIARD + "-1<0", -1);
        test("1/0=1/0", -1);
        test("not 1/0=1", -1);
        test("not not 1/0=1", -1);
        test("(1/0=1)", -1);
        say.term("II", "(\"or\", \"and\" ask what stands behind only if it can still matter).");
        test("1=1 or 1/0=1", 1);
        test("1=2 or 1/0=1", -1);
        test("1/0=1 or 1=1", -1);
        test("1/0=1 or 1=2", -1);
        test("1=2 and 1/0=1", 0);
        test("1=1 and 1/0=1", -1);
        test("1/0=1 and 1=2", -1);
        test("1/0=1 and 1=1", -1);
        test("1=1 or 1/0=1 or 1/0=1", 1);
        test("1=2 or 1=1 or 1/0=1", 1);
        test("1=2 and 1/0=1 and 1/0=1", 0);
        test("1=1 and 1=2 and 1/0=1", 0);
        test("1=2 and 1/0=1 or 1=1", 1);
        test("1=1 or 1=1 and 1/0=1", 1);
        test("1=2 and (1=1 or 1/0=1)", 0);
        test("1=1 or (1/0=1 and 1=2)", 1);
        test("not (1=1 or 1/0=1)", 0);
        test("not (1=2 and 1/0=1) and 1=1", 1);
        test("(1=2 and 1/0=1) or 1/0=1", -1);
    }

    private static void laws() {
        say.term("II", "LAWS, 6 at most; one is in FORCE (NONE at first: no CLAUSE):");
        CloudCalls x = village();
        C.due("none at first", x.count(14), -1);
        for (int i = 0; i < 6; i++) {
            C.due("law", Check.law(x, "tells " + (i + 4)), i);
        }
        C.due("no seventh", Check.law(x, "tells 1"), -5);
        C.due("six", x.count(6), 6);
        C.due("none is in force", x.asks(0, 0, 0), 3);
        x.force(5);
        C.due("one is in force", x.asks(0, 0, 0), 9);
        C.due("no law 6", x.force(6), -2);
        x.force(-1);
        C.due("no clause", x.asks(0, 0, 0), 3);
        say.term("II", "CLAUSE: ((\"tells\" | \"soaks\" | \"goes\") SUM | \"bars\") [\"if\" TEST].");
        for (String verb : new String[] {"tells", "soaks", "goes"}) {
            int n = verb.length();
            lawFault(verb + " 1", -1);
            lawFault(verb + " 1 if 1=1", -1);
            lawFault(verb, n);
            lawFault(verb + " if 1=1", n + 1);
            lawFault(verb + " 1 if", n + 5);
            lawFault(verb + " 1 if 1=1 if 1=1", n + 10);
            lawFault(verb + " 1 to 1", n + 3);
            lawFault(verb + " 1 times 2", n + 3);
        }
        lawFault("bars", -1);
        lawFault("bars if 1=1", -1);
        lawFault("bars 1", 5);
        lawFault("bars if", 7);
        lawFault("bars times 2", 5);
        for (String verb : new String[] {"ring", "engage", "smash", "pass", "tell", "tellss", "Bars", "1", "if", "("}) {
            lawFault(verb + " 1", 0);
        }
    }

    private static void lawWords() {
        say.term("II", "Words: \"cloud\" | \"kind\" | \"rage\" | \"box\" | \"folk\" | \"knows\" | \"wet\" | \"night\" | \"mood\".");
        String[] words = {"cloud", "kind", "rage", "box", "folk", "knows", "wet", "night", "mood"};
        int[] values = {1, 2, 6, 3, 1, 1, 4, 7, 8};
        for (int i = 0; i < words.length; i++) {
            tells("tells " + words[i], values[i]);
        }
        for (String word : new String[] {"done", "latest", "learnt", "soaked", "at", "busy", "fades", "ears", "clouds", "nigh", "nightt"}) {
            lawFault("tells " + word, 6);
        }
        say.term("II", "\"tells\", \"soaks\", \"bars\" are asked of a CLOUD and one of the FOLK (knows: 1, if she has EARS for its KIND, else 0; wet: hers)");
        CloudCalls x = new CloudCalls();
        x.cloud(0, 9, 0);
        x.cloud(1, 9, 0);
        x.folk(0, 1);
        x.folk(0, 2);
        under(x, "soaks 2+folk");
        x.engage(0);
        x.engage(1);
        x.ring(0, 0);
        x.ring(0, 1);
        x.ring(0, 1);
        under(x, "tells knows; soaks knows; bars if knows=0");
        for (int c = 0; c < 2; c++) {
            for (int f = 0; f < 2; f++) {
                C.due("tells knows", x.asks(c, f, 0), c == f ? 1 : 0);
                C.due("soaks knows", x.asks(c, f, 1), c == f ? 1 : 0);
                C.due("bars knows", x.asks(c, f, 2), c == f ? 1 : 0);
            }
        }
        under(x, "tells wet; soaks wet; bars if wet=6");
        C.due("tells wet", x.asks(0, 0, 0) * 10 + x.asks(0, 1, 0), 26);
        C.due("soaks wet", x.asks(0, 0, 1) * 10 + x.asks(0, 1, 1), 26);
        C.due("bars wet", x.asks(0, 0, 2) * 10 + x.asks(0, 1, 2), 10);
        under(x, "tells cloud*2+folk; soaks folk*2+cloud; bars if cloud>folk");
        C.due("tells of both", x.asks(1, 0, 0) * 10 + x.asks(0, 1, 0), 21);
        C.due("soaks of both", x.asks(1, 0, 1) * 10 + x.asks(0, 1, 1), 12);
        C.due("bars of both", x.asks(1, 0, 2) * 10 + x.asks(0, 1, 2), 1);
        say.term("II", "\"goes\" of a CLOUD (folk, knows, wet -1); box: where the CLOUD is.");
        x = circle();
        x.cloud(1, 4, 3);
        x.folk(2, 31);
        for (int b = 0; b < 6; b++) {
            x.road(3, b, 1);
        }
        under(x, "goes folk+1 if folk=0-1");
        C.due("folk", x.of(0, 3), 0);
        under(x, "goes knows+2 if knows=0-1");
        C.due("knows", x.of(0, 3), 1);
        under(x, "goes wet+3 if wet=0-1");
        C.due("wet", x.of(0, 3), 2);
        under(x, "goes box+2; tells box; soaks box+1");
        C.due("box", x.of(0, 3), 5);
        C.due("the cloud's box, not hers", x.asks(0, 0, 0) * 10 + x.asks(0, 0, 1), 34);
        under(x, "goes cloud+kind+rage; tells kind+folk");
        C.due("cloud, kind, rage", x.of(0, 3), 5);
        C.due("folk 0", x.asks(0, 0, 0), 1);
    }

    private static void whatALawSays() {
        say.term("II", "A CLAUSE HOLDS, if its \"if\" (if it has one) is so, and neither that nor its SUM is BROKEN.");
        tells("tells 1; tells 2", 2);
        tells("tells 1; tells 2 if 1=1", 2);
        tells("tells 1; tells 2 if 1=2", 1);
        tells("tells 1; tells 2 if 1/0=1", 1);
        tells("tells 1; tells 2 if not 1/0=1", 1);
        tells("tells 1; tells 1/0", 1);
        tells("tells 1; tells 1/0 if 1=1", 1);
        tells("tells 1; tells 1/0 if 1=2", 1);
        say.term("II", "A CLOUD TELLS 0 .. 9 as the last \"tells\" that HOLDS tells (else the nearest), without RAGE, or 0 if she has no EARS for it");
        tells("tells 0", 0);
        tells("tells 9", 9);
        tells("tells 10", 9);
        tells("tells 0-1", 0);
        tells("tells " + MILLIARD, 9);
        tells("tells 0-" + MILLIARD, 0);
        tells("tells 3; tells 5; tells 4", 4);
        tells("tells 3; tells 5; tells 4 if 1=2; soaks 7; goes 8; bars", 5);
        tells("tells 3 if 1=2", 6);
        tells("tells 3/0", 6);
        tells("soaks 3", 6);
        CloudCalls x = new CloudCalls();
        x.cloud(0, 6, 0);
        x.folk(0, 30);
        C.due("no ears, no law", x.asks(0, 0, 0), 0);
        under(x, "soaks 3");
        C.due("no ears, no 'tells'", x.asks(0, 0, 0), 0);
        under(x, "tells 3 if 1=2; tells 1/0");
        C.due("no ears, none holds", x.asks(0, 0, 0), 0);
        under(x, "tells 3");
        C.due("no ears, but told", x.asks(0, 0, 0), 3);
        say.term("II", "it SOAKS by 0 .. 9, RAGE without");
        C.due("rage, ears or not", x.asks(0, 0, 1), 6);
        under(x, "soaks 3 if 1=2; soaks 1/0");
        C.due("none holds", x.asks(0, 0, 1), 6);
        under(x, "soaks 10");
        C.due("the nearest", x.asks(0, 0, 1), 9);
        x = village();
        under(x, "soaks 0-1");
        C.due("the nearest", x.asks(0, 0, 1), 0);
        under(x, "soaks 0; soaks 4; soaks 2; soaks 7 if 1=2; tells 5");
        C.due("the last", x.asks(0, 0, 1), 2);
        say.term("II", "it GOES to the BOX told, without to the next number (0 behind 5), if a ROAD leads there (else it stays)");
        x = circle();
        for (int c = 0; c < 6; c++) {
            x.cloud(0, 1, c);
            C.due("the next number", x.of(c, 3), (c + 1) % 6);
        }
        under(x, "goes box-1; goes 5 if box=0; tells 3");
        for (int c = 0; c < 6; c++) {
            C.due("the box told", x.of(c, 3), (c + 5) % 6);
        }
        under(x, "goes 1/0; goes 3 if 1=2");
        C.due("none holds", x.of(5, 3), 0);
        under(x, "goes 3");
        int[] goals = {0, 1, 3, 3, 3, 5};
        for (int c = 0; c < 6; c++) {
            C.due("if a road leads there", x.of(c, 3), goals[c]);
        }
        under(x, "goes 6; goes 0-1 if cloud=0; goes " + MILLIARD + " if cloud=1");
        for (int c = 0; c < 6; c++) {
            C.due("no box, no road", x.of(c, 3), c);
        }
        x.force(-1);
        x.road(5, 0, 0);
        C.due("no road behind 5", x.of(5, 3), 5);
        say.term("II", "it does not RING one from whom it is BARRED (\"bars\" HOLDS).");
        x = under(village(), "bars if folk=0; bars if 1=2; bars if 1/0=1");
        C.due("barred", x.asks(0, 0, 2), 0);
        C.due("barred", x.ring(0, 0), -3);
        C.due("not barred", x.asks(0, 1, 2), 1);
        under(x, "bars if 1/0=1");
        C.due("a broken if", x.ring(0, 0), 3);
        under(x, "bars");
        C.due("all", x.ring(0, 1), -3);
        x.force(-1);
        C.due("no law", x.ring(0, 0), 3);
    }

    private static void orders() {
        say.term("II", "ORDERS: CLAUSE: (\"ring\" SUM \"to\" SUM | \"engage\" SUM | \"smash\" SUM | \"pass\") [\"times\" TIMES] [\"if\" TEST]. (a CLOUD, FOLK; FOLK; a BOX; a NIGHT.)");
        CloudCalls x = village();
        C.due("all four", Check.orders(x, "ring 1 to 0; engage 1; smash 5; pass"), 4);
        C.due("cloud 1 rang to folk 0", x.at(0, 4), 5);
        C.due("folk 1 is engaged", x.at(1, 2), 1);
        C.due("box 5 is smashed", x.count(2), 32);
        C.due("a night", x.count(15), 1);
        for (String clause : new String[] {"ring 0 to 0", "engage 0", "smash 0", "pass"}) {
            int n = clause.length();
            ordersFault(clause, -1);
            ordersFault(clause + " times 2", -1);
            ordersFault(clause + " if 1=1", -1);
            ordersFault(clause + " times 2 if 1=1", -1);
            ordersFault(clause + " if 1=1 times 2", n + 8);
            ordersFault(clause + " times 2 times 2", n + 9);
            ordersFault(clause + " times", n + 6);
            ordersFault(clause + " if", n + 3);
            ordersFault(clause + " 0", n + 1);
        }
        ordersFault("ring 0", 6);
        ordersFault("ring 0 0", 7);
        ordersFault("ring 0 if 1=1", 7);
        ordersFault("ring 0 times 2 to 0", 7);
        ordersFault("ring to 0", 5);
        ordersFault("ring 0 to 0 to 0", 12);
        ordersFault("engage", 6);
        ordersFault("engage 0 to 0", 9);
        ordersFault("smash times 2", 6);
        ordersFault("pass to 0", 5);
        for (String verb : new String[] {"tells", "soaks", "goes", "bars", "undo", "rings", "Pass"}) {
            ordersFault(verb + " 1", 0);
        }
        say.term("II", "TIMES: a NUMBER 1 .. 20.");
        ordersFault("pass times 0", 11);
        ordersFault("pass times 1", -1);
        ordersFault("pass times 20", -1);
        ordersFault("pass times 21", 11);
        ordersFault("pass times 020", -1);
        ordersFault("pass times 1000", 11);
        ordersFault("pass times 4294967297", 11);
        ordersFault("pass times done", 11);
        ordersFault("pass times [1]", 11);
        ordersFault("pass times 1+1", 12);
        C.due("twenty", Check.orders(new CloudCalls(), "pass times 20"), 20);
    }

    private static void orderWords() {
        say.term("II", "Words: \"night\" | \"done\" | \"latest\" | \"learnt\" | \"soaked\" | \"at\" C | \"busy\" F (C: a NUMBER 0 .. 5, F: 0 .. 4).");
        for (String word : new String[] {"night", "done", "latest", "learnt", "soaked", "at 0", "at 5", "busy 0", "busy 4"}) {
            ordersFault("smash " + word, -1);
        }
        ordersFault("smash at 6", 9);
        ordersFault("smash busy 5", 11);
        ordersFault("smash at", 8);
        ordersFault("smash busy", 10);
        ordersFault("smash at night", 9);
        ordersFault("smash busy night", 11);
        ordersFault("smash at [0]", 9);
        ordersFault("smash at 0-1", -1);
        ordersFault("smash at -1", 9);
        ordersFault("smash at 1001", 9);
        ordersFault("smash at 4294967296", 9);
        for (String word : new String[] {"cloud", "kind", "rage", "box", "folk", "knows", "wet", "mood"}) {
            ordersFault("smash " + word, 6);
        }
        say.term("II", "C, F, TIMES aside, NUMBERS and words count as PARTS.");
        String fifty = "smash at 0" + "+busy 0".repeat(49);
        ordersFault(fifty + " times 20", -1);
        ordersFault(fifty + "+1", fifty.length() + 1);
        ordersFault(fifty + "+at 0", fifty.length() + 1);
        ordersFault(fifty + " times 20;pass times 20", -1);
        ordersFault(fifty + " times 20;pass times 20 if 1=1", fifty.length() + 27);
    }

    private static void ordersRun() {
        say.term("II", "Run CLAUSE by CLAUSE, each as often as TIMES tell (once without); each time its \"if\" is asked (not run, if it is not so or BROKEN), then its SUMS from the left.");
        CloudCalls x = village();
        C.due("once without", Check.orders(x, "pass"), 1);
        C.due("as often as times tell", Check.orders(x, "pass times 3; engage 0 times 2"), 5);
        C.due("night", x.count(15), 4);
        C.due("in turn", Check.orders(x, "pass if night=4; engage 0 if night=5; pass if busy 0=1"), 3);
        C.due("each time", Check.orders(x, "pass times 20 if night<10"), 4);
        C.due("not so", Check.orders(x, "pass if 1=2"), 0);
        C.due("broken", Check.orders(x, "pass if 1/0=1; pass if not 1/0=1"), 0);
        C.due("a sum is not asked, if it is not run", Check.orders(x, "smash 1/0 if 1=2; smash 9 if 1/0=1"), 0);
        C.due("sums each time", Check.orders(x, "smash done times 6"), 6);
        C.due("all six", x.count(2), 63);
        C.due("smashed no more", Check.orders(x, "smash 5-done times 6"), 6);
        C.due("none", x.count(2), 0);
        x = village();
        C.due("the first broken", Check.orders(x, "ring 1/0 to 0"), -3);
        C.due("the second broken", Check.orders(x, "ring 0 to 1/0"), -3);
        C.due("a box beyond", Check.orders(x, "smash 6"), -3);
        C.due("nothing was", x.count(7), 0);
        say.term("II", "done: how many were run in this TEXT");
        C.due("those not run do not count", Check.orders(x, "pass; pass if 1=2; smash done; smash done times 2; pass if done=4"), 5);
        C.due("1, 2, 3", x.count(2), 14);
        C.due("from 0 in the next", Check.orders(x, "pass if done=0"), 1);
        say.term("II", "latest: what the latest ring in it told (-1: none)");
        x = under(village(), "tells 4+cloud; soaks 7");
        C.due("none", Check.orders(x, "pass if latest=0-1"), 1);
        C.due("told", Check.orders(x, "ring 0 to 0; ring 1 to 0 if latest=4; pass if latest=5"), 3);
        C.due("none in this text", Check.orders(x, "pass if latest=0-1; engage 0; pass if latest=0-1"), 3);
        C.due("soaked", Check.orders(x, "ring 0 to 0; pass if latest=7"), 2);
        say.term("II", "learnt, soaked: KNOWING, WET of all FOLK together");
        x = village();
        C.due("nothing", Check.orders(x, "pass if learnt=0 and soaked=0"), 1);
        x.undo();
        C.due("together", Check.orders(x, "ring 0 to 0; ring 1 to 1; pass if learnt=8 and soaked=0"), 3);
        x.undo();
        C.due("together", Check.orders(x, "engage 0; engage 1; ring 0 to 0; ring 1 to 1 times 2; pass if learnt=8 and soaked=13"), 6);
        say.term("II", "at: a CLOUD's BOX, busy: whether ENGAGED (1, 0), -1 without such a CLOUD, FOLK.");
        x = village();
        C.due("at", Check.orders(x, "pass if at 0=0 and at 1=1; engage 0 if at 0=1"), 2);
        C.due("busy", Check.orders(x, "pass if busy 0=1 and busy 1=0"), 1);
        C.due("without", Check.orders(x, "pass if at 2=0-1 and at 5=0-1 and busy 2=0-1 and busy 4=0-1"), 1);
        say.term("II", "One that can't be (a BROKEN SUM, as ring(), engage(), smash(), pass() are REFUSED) ends it: all is as it was ahead of it.");
        String[] last = {"smash 1/0", "engage 1%0", "ring 0 to 1/0", "ring 1/0 to 0", "smash " + MILLIARD + "+1", "ring 2 to 0", "ring 0 to 2",
            "ring 0-1 to 0", "ring 0 to 0-1", "engage 2", "engage 0-1", "smash 6", "smash 0-1", "ring 0 to 1"};
        for (String l : last) {
            x = village();
            x.engage(1);
            x.heard(0, 1);
            C.due(l, Check.orders(x, "smash 4; ring 0 to 0; engage 0; pass times 2; smash 1; " + l + "; pass times 20"), -3);
            C.due("smashed", x.count(2), 0);
            C.due("knowing", x.count(3), 0);
            C.due("wet", x.count(4), 0);
            C.due("engaged", x.at(0, 2) * 10 + x.at(1, 2), 1);
            C.due("night", x.count(15), 0);
            C.due("boxes", x.of(0, 2) * 10 + x.of(1, 2), 1);
            C.due("heard", x.count(5), 1);
            C.due("what can be undone", x.count(7), 1);
            C.due("it is undone", x.undo(), 1);
        }
        x = village();
        for (int i = 0; i < 19; i++) {
            C.holds("done", i % 4 == 0 ? x.ring(0, 0) >= 0 : i % 4 == 1 ? x.engage(i % 3 % 2) >= 0 : i % 4 == 2 ? x.smash(2 + i % 3) >= 0 : x.pass() > 0);
        }
        CloudCalls y = village();
        for (int i = 0; i < 19; i++) {
            C.holds("done", i % 4 == 0 ? y.ring(0, 0) >= 0 : i % 4 == 1 ? y.engage(i % 3 % 2) >= 0 : i % 4 == 2 ? y.smash(2 + i % 3) >= 0 : y.pass() > 0);
        }
        C.due("more than are kept, then none", Check.orders(x, "smash 5 times 9; engage 1 times 9; pass times 9; smash 6"), -3);
        for (int i = 0; i < 17; i++) {
            C.due("what can be undone is as it was", x.undo(), y.undo());
            for (int what = 2; what < 5; what++) {
                C.due("count(" + what + ")", x.count(what), y.count(what));
            }
            C.due("engaged", x.at(0, 2) * 10 + x.at(1, 2), y.at(0, 2) * 10 + y.at(1, 2));
            C.due("night", x.count(15) * 100 + x.of(0, 2) * 10 + x.of(1, 2), y.count(15) * 100 + y.of(0, 2) * 10 + y.of(1, 2));
        }
        x = village();
        x.terms(0, 997);
        C.due("night 999", Check.orders(x, "pass times 3"), -3);
        C.due("night", x.count(15), 997);
        C.due("to night 999", Check.orders(x, "pass times 2"), 2);
    }

    // ---- III

    private static void deeds() {
        say.term("III", "To RING: a CLOUD AT a BOX that is JOINED to hers, that is not BARRED from her: if she is ENGAGED, WET is more by what it SOAKS, else KNOWING by what it TELLS (999 at most each).");
        CloudCalls x = under(village(), "tells 4; soaks 7; bars if cloud=1 and folk=1");
        C.due("joined", x.ring(0, 1), 4);
        C.due("knowing", x.at(1, 4) * 10 + x.at(1, 3), 40);
        x.engage(1);
        C.due("engaged", x.ring(0, 1), 7);
        C.due("wet", x.at(1, 4) * 10 + x.at(1, 3), 47);
        C.due("barred", x.ring(1, 1), -3);
        x.smash(1);
        C.due("not joined", x.ring(0, 1), -3);
        C.due("not joined", x.ring(1, 0), -3);
        C.due("nothing more", x.at(1, 4) * 10 + x.at(1, 3), 47);
        C.due("nor to others", x.at(0, 4) + x.at(0, 3), 0);
        x = under(village(), "tells 9; soaks 9");
        for (int deed = 0; deed < 2; deed++) {
            Check.orders(x, "ring 0 to 0 times 20" + "; ring 0 to 0 times 20".repeat(4) + "; ring 0 to 0 times 11");
            C.due("just 999", x.at(0, 4 - deed), 999);
            C.due("told all the same", x.ring(0, 0), 9);
            C.due("999 at most", x.at(0, 4 - deed), 999);
            x.engage(0);
        }
        say.term("III", "To ENGAGE: she is ENGAGED, if she was not, else no more.");
        x = village();
        C.due("engaged", x.engage(1), 1);
        C.due("she alone", x.at(0, 2) * 10 + x.at(1, 2), 1);
        C.due("no more", x.engage(1), 0);
        C.due("no more", x.at(1, 2), 0);
        say.term("III", "To SMASH a BOX: it is SMASHED, if it was not, else no more.");
        C.due("smashed", x.smash(4), 1);
        C.due("smashed, too", x.smash(0), 1);
        C.due("these", x.count(2), 17);
        C.due("no more", x.smash(4), 0);
        C.due("that one", x.count(2), 1);
        say.term("III", "A NIGHT: all CLOUDS GO (asked as it was ahead; SMASHED BOXES, too); it is the next NIGHT (at 999 it can't be).");
        x = circle();
        x.cloud(0, 1, 4);
        x.cloud(0, 1, 5);
        x.smash(5);
        C.due("the next night", x.pass(), 1);
        C.due("to a smashed box, and from one", x.of(0, 2) * 10 + x.of(1, 2), 50);
        under(x, "goes box; goes 4 if night=1 and cloud=0; goes 1 if night=1 and cloud=1; goes 0 if night=2");
        x.pass();
        C.due("asked as it was ahead", x.of(0, 2) * 10 + x.of(1, 2), 41);
        x.terms(0, 998);
        C.due("the last", x.pass(), 999);
        x.force(-1);
        C.due("no more", x.pass(), -3);
        C.due("none goes", x.of(0, 2) * 10 + x.of(1, 2), 41);
        C.due("night", x.count(15), 999);
    }

    private static void ahead() {
        say.term("III", "(On paper:) WHERE a CLOUD is n NIGHTS on, nothing else being done (beyond NIGHT 999, too).");
        CloudCalls x = circle();
        x.cloud(0, 1, 0);
        x.cloud(1, 1, 3);
        for (int n = 0; n <= 60; n++) {
            C.due("where(0, " + n + ")", x.where(0, n), n % 6);
        }
        C.due("where(0, -1)", x.where(0, -1), -1);
        C.due("where(0, 61)", x.where(0, 61), -1);
        C.due("on paper", x.of(0, 2) + x.count(15) + x.count(7), 0);
        under(x, "goes box; goes 1 if night=999; goes 2 if night=1000; goes 3 if night-58=1000");
        x.terms(0, 999);
        int[] boxes = {0, 1, 2, 2};
        for (int n = 0; n < 4; n++) {
            C.due("beyond night 999", x.where(0, n), boxes[n]);
        }
        C.due("night 1058 passes", x.where(0, 59) * 10 + x.where(0, 60), 23);
        C.due("night", x.count(15), 999);
        say.term("III", "FIRST in a BOX: in how many NIGHTS 0 .. 60 any CLOUD is there.");
        x = circle();
        x.cloud(0, 1, 0);
        x.cloud(0, 1, 2);
        int[] nights = {0, 1, 0, 1, 2, 3};
        for (int b = 0; b < 6; b++) {
            C.due("first in " + b, x.first(b, 0), nights[b]);
        }
        under(x, "goes box; goes 1 if night=59");
        C.due("in 60", x.first(1, 0), 60);
        x.force(-1);
        under(x, "goes box; goes 1 if night=60");
        C.due("not in 61", x.first(1, 0), -1);
        say.term("III", "MEETING of two CLOUDS: in how many NIGHTS 0 .. 60 they are in one BOX.");
        C.due("apart", x.meeting(0, 1), -1);
        under(x, "goes box; goes 1 if night=59");
        C.due("in 60", x.meeting(0, 1), 60);
        under(x, "goes box; goes 1 if night=60");
        C.due("not in 61", x.meeting(1, 0), -1);
        x.cloud(0, 1, 2);
        C.due("now", x.meeting(1, 2), 0);
        say.term("III", "AGAIN: the least n 1 .. 60 behind which all CLOUDS are where they are now.");
        C.due("none goes", x.again(), 1);
        x.force(-1);
        C.due("once round", x.again(), 6);
        under(x, "goes box; goes 1 if cloud=0 and night=0; goes 0 if cloud=0 and night=59; goes 1 if night=60");
        C.due("in 60", x.again(), 60);
        x = circle();
        x.cloud(0, 1, 0);
        under(x, "goes box; goes 1 if night=0; goes 0 if night=60");
        C.due("not in 61", x.again(), -1);
        C.due("without clouds", new CloudCalls().again(), 1);
        x = circle();
        x.road(0, 2, 1);
        x.cloud(0, 1, 0);
        x.cloud(1, 1, 3);
        under(x, "goes 0 if box=2 and kind=0; goes 3 if box=4 and kind=1");
        C.due("all of them", x.again(), 6);
    }

    private static void answered() {
        say.term("III", "ANSWERED: each CLOUD by nobody or by one of the FOLK not ENGAGED to whom it could RING now, each of them one CLOUD at most, so that most is TOLD together; the first as a row of FOLK by CLOUDS (5: nobody).");
        CloudCalls x = new CloudCalls();
        x.cloud(0, 3, 0);
        x.cloud(1, 3, 0);
        x.cloud(2, 9, 5);
        x.folk(0, 3);
        C.due("one cloud at most", x.answered(0), 3);
        C.due("the first row", x.answered(1) * 10 + x.answered(2), 5);
        C.due("could not ring", x.answered(3), 5);
        x.folk(0, 31);
        C.due("two", x.answered(0), 6);
        C.due("the first row", x.answered(1) * 10 + x.answered(2), 1);
        x.engage(0);
        C.due("not by one engaged", x.answered(0), 3);
        C.due("by her", x.answered(1) * 10 + x.answered(2), 15);
        x.engage(0);
        x.road(0, 5, 1);
        C.due("most together", x.answered(0), 12);
        C.due("nobody answers the lowest but one", x.answered(1) * 100 + x.answered(2) * 10 + x.answered(3), 51);
        under(x, "tells 0");
        C.due("nothing told", x.answered(0), 0);
        C.due("the first row all the same", x.answered(1) * 100 + x.answered(2) * 10 + x.answered(3), 15);
        under(x, "tells 9; bars if cloud=2; tells 1 if folk=0");
        C.due("barred", x.answered(0), 10);
        C.due("barred", x.answered(1) * 100 + x.answered(2) * 10 + x.answered(3), 15);
        x = new CloudCalls();
        for (int i = 0; i < 6; i++) {
            x.cloud(0, i + 1, 0);
        }
        for (int i = 0; i < 5; i++) {
            x.folk(0, 1);
        }
        C.due("five of six", x.answered(0), 20);
        C.due("nobody to the least", x.answered(1), 5);
        for (int i = 1; i < 6; i++) {
            C.due("in turn", x.answered(1 + i), i - 1);
        }
        x.smash(0);
        C.due("none could ring now", x.answered(0), 0);
        x = new CloudCalls();
        x.cloud(0, 3, 0);
        x.image(0);
        x.folk(0, 1);
        x.cloud(0, 9, 0);
        C.due("by whom, not asked how much", x.answered(2), 0);
        C.due("by whom, not asked how much", x.answered(1), 5);
        C.due("how much", x.answered(0), 9);
        x.back(0);
        C.due("nothing of what was asked earlier", x.answered(0), 0);
        x.folk(0, 1);
        C.due("nothing of what was asked earlier", x.answered(0), 3);
        C.due("by her", x.answered(1), 0);
    }

    private static void canBeAndAsk() {
        say.term("III", "IT CAN BE: CLOUDS that are not BARRED from and would TELL so all that was HEARD (wherever they are).");
        CloudCalls x = new CloudCalls();
        x.cloud(0, 3, 0);
        x.cloud(1, 3, 3);
        x.cloud(0, 9, 5);
        x.folk(0, 1);
        x.folk(0, 3);
        C.due("nothing heard: all", x.canBe(), 7);
        x.heard(1, 3);
        x.smash(0);
        C.due("wherever they are, joined or not", x.canBe(), 3);
        x.heard(0, 3);
        C.due("all that was heard", x.canBe(), 1);
        x.heard(0, 9);
        C.due("no more", x.canBe(), 0);
        x.forget();
        x.heard(0, 0);
        C.due("0 without ears", x.canBe(), 2);
        x.forget();
        x.heard(0, 9);
        C.due("9", x.canBe(), 4);
        under(x, "bars if cloud=2 and folk=0");
        C.due("barred", x.canBe(), 0);
        x.engage(0);
        x.force(-1);
        C.due("engaged or not", x.canBe(), 4);
        say.term("III", "To ASK: the FOLK to whom the most of these that TELL alike (BARRED ones: alike) are as few as can be; the lowest.");
        x = new CloudCalls();
        x.folk(0, 31);
        x.folk(0, 1);
        x.folk(0, 1);
        x.folk(0, 3);
        x.cloud(0, 5, 1);
        x.cloud(1, 5, 2);
        C.due("the lowest of alike ones", x.ask(0), 1);
        C.due("one left", x.ask(1), 1);
        x.cloud(2, 5, 3);
        C.due("two left", x.ask(0) * 10 + x.ask(1), 12);
        x.cloud(3, 5, 3);
        C.due("3 tells two apart from two", x.ask(0) * 10 + x.ask(1), 32);
        x.heard(1, 0);
        C.due("of these alone", x.ask(0) * 10 + x.ask(1), 32);
        x.forget();
        under(x, "tells 0; bars if folk=2 and cloud>1");
        C.due("barred ones apart, alike", x.ask(0) * 10 + x.ask(1), 22);
        under(x, "tells 0; bars if folk=2; tells cloud if folk=2");
        C.due("barred ones are alike, whatever they would tell", x.ask(0) * 10 + x.ask(1), 4);
        under(x, "tells 0; tells 9 if folk=3 and cloud=0; bars if folk=3 and cloud=1");
        C.due("barred is not 9", x.ask(0) * 10 + x.ask(1), 32);
    }

    private static void waysAndParts() {
        say.term("III", "A WAY from a BOX to another one: the shortest by ROADS (SMASHED aside); the first as a row of BOXES.");
        CloudCalls x = new CloudCalls();
        x.road(0, 5, 9);
        x.road(0, 3, 2);
        x.road(3, 5, 3);
        x.road(0, 1, 1);
        x.road(1, 2, 2);
        x.road(2, 5, 2);
        C.due("the shortest", x.way(0, 5, -1), 5);
        C.due("the first of two", x.way(0, 5, 0), 1);
        C.due("then 2", x.way(0, 5, 1), 2);
        C.due("then 5", x.way(0, 5, 2), 5);
        C.due("the first from there", x.way(5, 0, 0), 2);
        x.smash(1);
        x.smash(0);
        x.smash(5);
        C.due("whether smashed does not matter", x.way(0, 5, -1) * 10 + x.way(0, 5, 0), 51);
        x.road(3, 5, 2);
        C.due("shorter", x.way(0, 5, -1) * 10 + x.way(0, 5, 0), 43);
        x.road(0, 5, 4);
        C.due("0 3 5 ahead of 0 5", x.way(0, 5, 0) * 10 + x.way(0, 5, 1), 35);
        C.due("5 0 ahead of 5 3 0", x.way(5, 0, 0), 0);
        say.term("III", "To PART two BOXES: the fewest others not SMASHED by which, if they were, they would not be JOINED; the lowest as bits.");
        x = circle();
        C.due("two ways", x.part(0, 3, 0), 2);
        C.due("the lowest", x.part(0, 3, 1), 2 + 16);
        C.due("neighbours can't be", x.part(0, 1, 0), -1);
        x.smash(1);
        C.due("one way", x.part(0, 3, 0) * 100 + x.part(0, 3, 1), 116);
        x.smash(4);
        C.due("parted", x.part(0, 3, 0) * 100 + x.part(0, 3, 1), 0);
        C.due("one of them smashed", x.part(1, 2, 0), 0);
        x = new CloudCalls();
        for (int b = 1; b < 3; b++) {
            x.road(0, b, 1);
            x.road(b, 4, 1);
        }
        x.road(4, 5, 1);
        C.due("one high ahead of two low", x.part(0, 5, 0) * 100 + x.part(0, 5, 1), 116);
        x = new CloudCalls();
        x.road(0, 4, 1);
        x.road(4, 1, 1);
        x.road(1, 2, 1);
        C.due("one of two: the lower", x.part(0, 2, 1), 2);
        x = new CloudCalls();
        for (int b = 1; b < 5; b++) {
            x.road(0, b, 1);
            x.road(b, 5, 1);
        }
        C.due("all four others", x.part(0, 5, 0) * 100 + x.part(0, 5, 1), 430);
    }

    private static void leaveNeededFair() {
        say.term("III", "To LEAVE: the fewest BOXES not SMASHED, among them all by which FOLK live, that are JOINED to one another by ROADS over these alone; the lowest as bits.");
        CloudCalls x = circle();
        C.due("without folk none", x.leave(0) + x.leave(1), 0);
        x.folk(4, 0);
        C.due("hers alone", x.leave(0) * 100 + x.leave(1), 116);
        x.folk(4, 0);
        C.due("both by one", x.leave(0) * 100 + x.leave(1), 116);
        x.folk(1, 0);
        C.due("the lowest of two", x.leave(0) * 100 + x.leave(1), 400 + 2 + 4 + 8 + 16);
        x.smash(2);
        C.due("not smashed", x.leave(1), 1 + 2 + 16 + 32);
        x.smash(0);
        C.due("it can't be", x.leave(0), -1);
        x.smash(2);
        x.smash(4);
        C.due("hers is smashed", x.leave(0), -1);
        x.smash(4);
        x.smash(0);
        x.road(1, 4, 9);
        C.due("however long", x.leave(0) * 100 + x.leave(1), 218);
        x = circle();
        x.road(0, 5, 0);
        for (int b : new int[] {0, 1, 2, 3, 5}) {
            x.folk(b, 0);
        }
        C.due("all six", x.leave(0) * 100 + x.leave(1), 663);
        say.term("III", "NEEDED: BOXES not SMASHED without which two others that are JOINED would not be.");
        x = circle();
        C.due("none", x.needed(), 0);
        x.road(0, 5, 0);
        C.due("all between", x.needed(), 30);
        x.smash(2);
        C.due("3 ends, 4 is between", x.needed(), 16);
        x.smash(4);
        C.due("no more", x.needed(), 0);
        for (int middle = 0; middle < 6; middle++) {
            x = new CloudCalls();
            x.road(middle, (middle + 2) % 6, 1);
            x.road(middle, (middle + 5) % 6, 1);
            C.due("the middle of three", x.needed(), 1 << middle);
        }
        say.term("III", "FAIR: of all CLOUDS that could RING to any of the FOLK, ENGAGED or not, CLOUD by CLOUD (rising) to one who has least so far, the lowest of alike ones: what each has then (as TOLD; those it could RING to alone).");
        x = new CloudCalls();
        x.folk(0, 31);
        x.folk(0, 31);
        x.folk(5, 31);
        int[] rages = {4, 1, 2, 9, 3, 8};
        for (int c = 0; c < 6; c++) {
            x.cloud(0, rages[c], c == 5 ? 5 : c == 3 ? 2 : 0);
        }
        x.engage(0);
        x.ring(0, 1);
        // 4 to 0, 1 to 1, 2 to 1, 9 can't, 3 to 1 (3 is less than 4), 8 to 2.
        C.due("0", x.fair(0), 4);
        C.due("1", x.fair(1), 6);
        C.due("2", x.fair(2), 8);
        x.road(0, 5, 1);
        // 4 to 0, 1 to 1, 2 to 2, 3 to 1, 8 to 2.
        C.due("0", x.fair(0), 4);
        C.due("1", x.fair(1), 4);
        C.due("2", x.fair(2), 10);
        under(x, "bars if folk=1; tells 0 if folk=0; tells 5 if folk=2");
        C.due("0 has 0 each time, so all", x.fair(0), 0);
        C.due("none", x.fair(1) + x.fair(2), 0);
        under(x, "bars if folk=0 or folk=1 and cloud>0; tells 0");
        C.due("those it could ring to alone", x.fair(0) + x.fair(1) + x.fair(2), 0);
        under(x, "bars if folk=0 or folk=1 and cloud>0");
        C.due("4", x.fair(1), 4);
        C.due("1, 2, 3, 8", x.fair(2), 14);
    }

    private static void fewAndCompared() {
        say.term("III", "FEW: the chance, of 1,000,000,000,000 parts, that of n rings, each of which fades in FADES of ten, fewer than k do: ring by ring, by how many did, each part times the rest by ten and times FADES by ten (one more), both cut; of those below k all together.");
        long whole = 1000000000000L;
        CloudCalls x = new CloudCalls();
        for (int fades = 0; fades <= 10; fades++) {
            x.terms(1, fades);
            long[] parts = new long[101];
            parts[0] = whole;
            for (int n = 0; n <= 30; n++) {
                for (int k = 1; k <= 20; k += n < 4 ? 1 : 6) {
                    long sum = 0;
                    for (int j = 0; j < k; j++) {
                        sum += parts[j];
                    }
                    C.due("few(" + k + ", " + n + ") of " + fades, new Few(fades).ask(k, n), sum);
                }
                long[] next = new long[101];
                for (int j = 0; j < 100; j++) {
                    next[j] += parts[j] * (10 - fades) / 10;
                    next[j + 1] += parts[j] * fades / 10;
                }
                parts = next;
            }
        }
        // Cut twice, not once: of 3 rings by 13 digits no cut is seen, of 13 it is.
        x.terms(1, 3);
        C.holds("what is cut is lost", x.few(20, 19) < whole && x.few(20, 19) > whole - 2000);
        say.term("III", "COMPARED: how much is ANSWERED by a LAW in place of that in FORCE (NONE: none).");
        x = village();
        Check.law(x, "tells 2");
        Check.law(x, "bars if folk=0");
        x.force(0);
        C.due("in force", x.answered(0), 4);
        C.due("none", x.compare(-1), 8);
        C.due("itself", x.compare(0), 4);
        C.due("the other", x.compare(1), 5);
        C.due("no such", x.compare(2), -1);
        C.due("in force as it was", x.count(14) * 10 + x.answered(0), 4);
    }

    /** A new object for each question, as one is for 512 calls alone. */
    private static final class Few {
        private final CloudCalls x = new CloudCalls();

        Few(int fades) {
            x.terms(1, fades);
        }

        long ask(int k, int n) {
            return x.few(k, n);
        }
    }

    // ---- IV

    private static void seasons() {
        say.term("IV", "SEASONS with a SEED, n 1 .. 60, on paper: s is the SEED (0 .. 1,000,000)");
        CloudCalls x = village();
        C.due("seed below", x.seasons(-1, 1), -1);
        C.due("seed beyond", x.seasons(1000001, 1), -1);
        C.due("n below", x.seasons(0, 0), -1);
        C.due("n beyond", x.seasons(0, 61), -1);
        C.due("far off", x.seasons(MIN, MAX), -1);
        C.holds("the least", x.seasons(0, 1) >= 0);
        C.holds("the most", x.seasons(1000000, 60) >= 0);
        C.due("on paper", x.count(2) + x.count(3) + x.count(4) + x.count(7) + x.count(15) + x.of(0, 2) + x.at(0, 2) + x.at(1, 2), 0);
        say.term("IV", "a DRAW of m: s becomes (s times 1103 and 12345) modulo 1,000,003, it is s modulo m.");
        say.term("IV", "Each time (at NIGHT 999 it ends) DRAWS of CLOUDS, of FOLK, of 4: at 0, 1 that CLOUD RINGS to her, if it can, at 2 she is ENGAGED, or no more, at 3 the BOX by which she lives is SMASHED, or no more; then the NIGHT passes.");
        for (int seed : new int[] {0, 1, 2, 3, 7, 99, 12345, 999983, 999999, 1000000}) {
            for (int n : new int[] {1, 2, 5, 60}) {
                compareSeasons(seed, n, 0);
                compareSeasons(seed, n, 960);
            }
            compareSeasons(seed, 60, 998);
            compareSeasons(seed, 60, 999);
        }
    }

    /** Three clouds and two of the folk in the ring of boxes, done by calls on another object. */
    private static void compareSeasons(int seed, int n, int night) {
        CloudCalls[] two = {circle(), circle()};
        for (CloudCalls x : two) {
            x.cloud(0, 3, 0);
            x.cloud(1, 5, 2);
            x.cloud(2, 9, 3);
            x.folk(0, 3);
            x.folk(3, 6);
            x.terms(0, night);
            under(x, "tells rage+night%2; tells 0 if night%3=1; soaks 2; goes 2 if box=1 and night%3=0; bars if folk=1 and mood=0 and night%5=0");
        }
        long s = seed;
        int rang = 0;
        for (int i = 0; i < n && two[0].count(15) < 999; i++) {
            int[] drawn = new int[3];
            int[] of = {3, 2, 4};
            for (int d = 0; d < 3; d++) {
                s = (s * 1103 + 12345) % 1000003;
                drawn[d] = (int) (s % of[d]);
            }
            if (drawn[2] < 2) {
                rang += two[0].ring(drawn[0], drawn[1]) >= 0 ? 1 : 0;
            } else if (drawn[2] == 2) {
                two[0].engage(drawn[1]);
            } else {
                two[0].smash(two[0].at(drawn[1], 0));
            }
            two[0].pass();
        }
        String call = "seasons(" + seed + ", " + n + ") at night " + night;
        C.due(call, two[1].seasons(seed, n), rang);
        for (int c = 0; c < 3; c++) {
            C.due(call + ": box of " + c, two[1].drawn(c, 0), two[0].of(c, 2));
        }
        for (int f = 0; f < 2; f++) {
            C.due(call + ": wet of " + f, two[1].drawn(f, 1), two[0].at(f, 3));
            C.due(call + ": knowing of " + f, two[1].drawn(f, 2), two[0].at(f, 4));
        }
    }

    private static void rows() {
        say.term("IV", "A ROW: the TAPE's bytes by threes: BOXES a, b, LONG (0: none): that ROAD; one that can't be, one within which the TAPE ends is a WRONG NUMBER: nothing.");
        int[][] good = {{0, 1, 1}, {5, 0, 9}, {0, 5, 0}, {4, 3, 5}};
        for (int[] g : good) {
            CloudCalls x = new CloudCalls();
            x.road(g[0], g[1], 7);
            C.due("a road", row(x, g[0], g[1], g[2]) * 10 + x.wrong(), 10);
            C.due("both ways", x.box(g[0], 2 + g[1]) * 10 + x.box(g[1], 2 + g[0]), 11 * g[2]);
        }
        int[][] bad = {{6, 1, 1}, {1, 6, 1}, {0, 1, 10}, {0, 0, 1}, {3, 3, 0}, {255, 1, 1}, {1, 255, 1}, {0, 1, 255}, {128, 1, 1}, {0, 1, 128}, {48, 49, 50}};
        for (int[] b : bad) {
            CloudCalls x = new CloudCalls();
            x.road(0, 1, 7);
            C.due("none", row(x, b[0], b[1], b[2]) * 10 + x.wrong(), 1);
            C.due("nothing", x.box(0, 3) * 10 + x.box(1, 2), 77);
        }
        CloudCalls x = new CloudCalls();
        C.due("it ends behind two", row(x, 0, 1), 0);
        C.due("wrong", x.wrong(), 1);
        C.due("it ends behind one", row(x, 0, 1, 4, 2), 1);
        C.due("wrong", x.wrong(), 1);
        C.due("nothing of what is behind the end", x.box(2, 2) + x.box(2, 3), 0);
        C.due("by threes", row(x, 9, 0, 1, 1, 2, 3, 9), 1);
        C.due("wrong", x.wrong(), 2);
        C.due("1 to 2", x.box(1, 4), 3);
        C.due("the last of one road", row(x, 1, 2, 8, 2, 1, 6), 2);
        C.due("1 to 2", x.box(1, 4), 6);
    }

    private static int row(CloudCalls x, int... bytes) {
        byte[] tape = new byte[bytes.length];
        for (int i = 0; i < bytes.length; i++) {
            tape[i] = (byte) bytes[i];
        }
        Check.feed(x, tape);
        return x.row();
    }

    private static void images() {
        say.term("IV", "IMAGES 0, 1 keep all but the TAPE, FAULT, WRONG NUMBERS, where ORDERS stopped, what can be undone (nothing, behind back()), the latest SEASONS; BACK to one all that it keeps is as it was then (IMAGES stay).");
        CloudCalls x = village();
        for (int k : new int[] {-1, 2, MIN, MAX}) {
            C.due("image", x.image(k), -1);
            C.due("back", x.back(k), -1);
        }
        under(x, "tells 4; tells 6 if folk=1");
        x.heard(0, 4);
        x.terms(2, 3);
        x.ring(0, 0);
        x.engage(1);
        x.ring(0, 1);
        x.smash(4);
        C.due("kept", x.image(1), 0);
        change(x);
        int[] drawn = {x.drawn(0, 0), x.drawn(2, 0), x.drawn(0, 2), x.drawn(2, 1)};
        for (int time = 0; time < 2; time++) {
            C.due("back", x.back(1), 0);
            int[] counts = {2, 2, 16, 4, 3, 1, 1, 0, 7};
            for (int what = 0; what < counts.length; what++) {
                C.due("count(" + what + ")", x.count(what), counts[what]);
            }
            C.due("force", x.count(14), 0);
            C.due("night, fades, mood", x.count(15) * 100 + x.count(16) * 10 + x.count(17), 13);
            C.due("law", x.asks(0, 0, 0), 4);
            C.due("boxes", x.of(0, 2) * 10 + x.of(1, 2), 1);
            C.due("engaged", x.at(0, 2) * 10 + x.at(1, 2), 1);
            C.due("roads", x.box(0, 3) * 10 + x.box(2, 5), 10);
            C.due("heard", x.canBe(), 3);
            C.due("fault", x.fault(), 6);
            C.due("wrong numbers", x.wrong(), 1);
            C.due("stopped", x.stopped(), 1);
            C.due("nothing to undo", x.undo(), -3);
            C.due("seasons", x.drawn(0, 0) * 1000 + x.drawn(2, 0), drawn[0] * 1000 + drawn[1]);
            C.due("seasons", x.drawn(0, 2) * 1000 + x.drawn(2, 1), drawn[2] * 1000 + drawn[3]);
            C.due("the other image was not kept", x.back(0), -2);
            x.end(0);
            change(x);
        }
    }

    /** Changes all that an image keeps, and all that it does not. */
    private static void change(CloudCalls x) {
        x.cloud(3, 3, 3);
        x.folk(3, 3);
        x.road(0, 1, 5);
        x.road(2, 3, 5);
        x.forget();
        x.heard(1, 9);
        x.heard(1, 8);
        x.terms(1, 5);
        x.terms(2, 6);
        under(x, "tells 7");
        x.ring(0, 0);
        x.engage(0);
        x.engage(1);
        x.smash(4);
        x.smash(2);
        x.pass();
        row(x, 9);
        Check.orders(x, "pass; smash 6");
        Check.law(x, "tells x");
        x.seasons(4, 9);
        Check.feed(x, "ninebytes");
        x.end(7);
    }
}
