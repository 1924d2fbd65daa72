/** Promise by promise: ordinary inputs, the edges that the document names, wrong inputs. */
final class PromisesTest {
    private static final Check C = new Check();
    private static final int MIN = Integer.MIN_VALUE;
    private static final int MAX = Integer.MAX_VALUE;

    public static void main(String[] args) {
        newObject();
        cloudAndOf();
        folkAndAt();
        asks();
        roadAndBox();
        terms();
        feedAndEnd();
        rowAndWrong();
        lawTexts();
        lawLimits();
        lawMeaning();
        brokenSums();
        goesAndBars();
        ordersTexts();
        ordersRun();
        ordersUndone();
        force();
        ring();
        engageSmashPass();
        undo();
        whereFirstMeetingAgain();
        answered();
        heardCanBeAsk();
        way();
        part();
        leaveNeeded();
        fair();
        few();
        compare();
        seasons();
        images();
        countAndStatus();
        C.close("PromisesTest");
    }

    private static void newObject() {
        C.part("1 a new object");
        CloudCalls x = new CloudCalls();
        for (int what = -1; what <= 18; what++) {
            C.due("count(" + what + ")", x.count(what), what == 14 || what == -1 || what == 18 ? -1 : what == 16 ? 1 : 0);
        }
        C.due("status()", x.status(), 0);
        C.due("fault()", x.fault(), -1);
        C.due("stopped()", x.stopped(), -1);
        C.due("wrong()", x.wrong(), 0);
        for (int b = 0; b < 6; b++) {
            for (int what = 0; what < 8; what++) {
                C.due("box(" + b + ", " + what + ")", x.box(b, what), 0);
            }
        }
        CloudCalls y = new CloudCalls();
        y.cloud(0, 0, 0);
        C.due("another object's clouds", x.count(0), 0);
    }

    private static void cloudAndOf() {
        C.part("2, 3 cloud, of");
        CloudCalls x = new CloudCalls();
        int[][] wrong = {{-1, 0, 0}, {5, 0, 0}, {0, -1, 0}, {0, 10, 0}, {0, 0, -1}, {0, 0, 6}, {MIN, MIN, MIN}, {MAX, MAX, MAX}};
        for (int[] w : wrong) {
            C.due("cloud of a wrong number", x.cloud(w[0], w[1], w[2]), -1);
        }
        for (int c = 0; c < 6; c++) {
            C.due("cloud " + c, x.cloud(c % 5, c + 4, 5 - c), c);
            C.due("status", x.status(), 0);
        }
        C.due("a seventh", x.cloud(0, 0, 0), -5);
        C.due("a wrong seventh", x.cloud(5, 0, 0), -1);
        C.due("clouds", x.count(0), 6);
        for (int c = 0; c < 6; c++) {
            C.due("kind", x.of(c, 0), c % 5);
            C.due("rage", x.of(c, 1), c + 4);
            C.due("box", x.of(c, 2), 5 - c);
            C.due("no road: it stays", x.of(c, 3), 5 - c);
        }
        x.road(5, 0, 1);
        C.due("0 behind 5", x.of(0, 3), 0);
        C.due("no road to 1", x.of(5, 3), 0);
        C.due("of(0, 4)", x.of(0, 4), -1);
        C.due("of(0, -1)", x.of(0, -1), -1);
        C.due("of(6, 0)", x.of(6, 0), -1);
        C.due("of(-1, 0)", x.of(-1, 0), -1);
        C.due("of(MIN, MAX)", x.of(MIN, MAX), -1);
    }

    private static void folkAndAt() {
        C.part("4, 5 folk, at");
        CloudCalls x = new CloudCalls();
        C.due("box 6", x.folk(6, 0), -1);
        C.due("box -1", x.folk(-1, 0), -1);
        C.due("ears 32", x.folk(0, 32), -1);
        C.due("ears -1", x.folk(0, -1), -1);
        for (int f = 0; f < 5; f++) {
            C.due("folk " + f, x.folk(f + 1, 31 - f), f);
        }
        C.due("a sixth", x.folk(0, 0), -5);
        C.due("a wrong sixth", x.folk(0, 99), -1);
        for (int f = 0; f < 5; f++) {
            C.due("box", x.at(f, 0), f + 1);
            C.due("ears", x.at(f, 1), 31 - f);
            C.due("engaged", x.at(f, 2), 0);
            C.due("wet", x.at(f, 3), 0);
            C.due("knowing", x.at(f, 4), 0);
        }
        C.due("at(0, 5)", x.at(0, 5), -1);
        C.due("at(0, -1)", x.at(0, -1), -1);
        C.due("at(5, 0)", x.at(5, 0), -1);
        C.due("at(MIN, 0)", x.at(MIN, 0), -1);
    }

    private static void asks() {
        C.part("6 asks");
        CloudCalls x = new CloudCalls();
        x.cloud(2, 7, 0);
        x.folk(0, 4);
        x.folk(1, 27);
        C.due("with ears", x.asks(0, 0, 0), 7);
        C.due("without ears", x.asks(0, 1, 0), 0);
        C.due("soaks without ears", x.asks(0, 1, 1), 7);
        C.due("in her box", x.asks(0, 0, 2), 1);
        C.due("not joined", x.asks(0, 1, 2), 0);
        x.engage(0);
        C.due("engaged, it could ring", x.asks(0, 0, 2), 1);
        x.smash(0);
        C.due("one smashed box is not joined to itself", x.asks(0, 0, 2), 0);
        C.due("what 3", x.asks(0, 0, 3), -1);
        C.due("what -1", x.asks(0, 0, -1), -1);
        C.due("no cloud", x.asks(1, 0, 0), -1);
        C.due("no folk", x.asks(0, 2, 0), -1);
    }

    private static void roadAndBox() {
        C.part("7, 8 road, box");
        CloudCalls x = new CloudCalls();
        C.due("road(0, 1, 9)", x.road(0, 1, 9), 0);
        C.due("road(1, 0, 3)", x.road(1, 0, 3), 9);
        C.due("box(0, 3)", x.box(0, 3), 3);
        C.due("box(1, 2)", x.box(1, 2), 3);
        C.due("one alone", x.road(2, 2, 1), -1);
        C.due("length 10", x.road(0, 1, 10), -1);
        C.due("length -1", x.road(0, 1, -1), -1);
        C.due("box -1", x.road(-1, 1, 1), -1);
        C.due("box 6", x.road(1, 6, 1), -1);
        C.due("nothing changed", x.box(0, 3), 3);
        x.road(1, 2, 1);
        x.road(2, 3, 1);
        x.road(4, 5, 1);
        C.due("joined to 0", x.box(0, 1), 14);
        C.due("joined to 4", x.box(4, 1), 32);
        x.smash(2);
        C.due("smashed", x.box(2, 0), 1);
        C.due("joined to 0 but 2", x.box(0, 1), 2);
        C.due("a smashed one to none", x.box(2, 1), 0);
        C.due("its road stays", x.box(2, 5), 1);
        C.due("no more", x.road(0, 1, 0), 3);
        C.due("then", x.box(0, 1), 0);
        C.due("to itself", x.box(0, 2), 0);
        C.due("box(0, 7)", x.box(0, 7), 0);
        C.due("box(0, 8)", x.box(0, 8), -1);
        C.due("box(0, -1)", x.box(0, -1), -1);
        C.due("box(-1, 0)", x.box(-1, 0), -1);
        C.due("box(MAX, MIN)", x.box(MAX, MIN), -1);
    }

    private static void terms() {
        C.part("9 terms");
        CloudCalls x = new CloudCalls();
        C.due("night", x.terms(0, 999), 0);
        C.due("fades", x.terms(1, 10), 1);
        C.due("mood", x.terms(2, 9), 0);
        C.due("night again", x.terms(0, 5), 999);
        C.due("fades again", x.terms(1, 0), 10);
        C.due("mood again", x.terms(2, 1), 9);
        int[][] wrong = {{0, 1000}, {0, -1}, {1, 11}, {1, -1}, {2, 10}, {2, -1}, {3, 0}, {-1, 0}, {MAX, 0}, {0, MIN}};
        for (int[] w : wrong) {
            C.due("terms(" + w[0] + ", " + w[1] + ")", x.terms(w[0], w[1]), -1);
        }
        C.due("count(15)", x.count(15), 5);
        C.due("count(16)", x.count(16), 0);
        C.due("count(17)", x.count(17), 1);
    }

    private static void feedAndEnd() {
        C.part("10, 11 feed, end");
        CloudCalls x = new CloudCalls();
        for (int i = 1; i <= 20; i++) {
            C.due("feed", x.feed(0, 1, 2, 3, 4), 20 * i);
        }
        C.due("a twenty-first", x.feed(0, 0, 0, 0, 0), -1);
        C.due("the tape", x.count(8), 400);
        C.due("end(401)", x.end(401), -1);
        C.due("end(-1)", x.end(-1), -1);
        C.due("end(400)", x.end(400), 400);
        C.due("end(381)", x.end(381), 381);
        C.due("too many", x.feed(0, 0, 0, 0, 0), -1);
        C.due("end(380)", x.end(380), 380);
        C.due("just so many", x.feed(0, 0, 0, 0, 0), 400);
        C.due("end(0)", x.end(0), 0);
        C.due("end(1)", x.end(1), -1);
        C.due("they refuse nothing", x.count(9) + x.status(), 0);
        C.due("the highest byte first", Check.feed(x, new byte[] {0, 1, 7, 2, 3, 8}), 6);
        C.due("row()", x.row(), 2);
        C.due("0 to 1", x.box(0, 3), 7);
        C.due("2 to 3", x.box(2, 5), 8);
    }

    private static void rowAndWrong() {
        C.part("12, 13 row, wrong");
        CloudCalls x = new CloudCalls();
        C.due("an empty tape", x.row(), -6);
        C.due("status", x.status(), -6);
        Check.feed(x, new byte[] {0, 1, 5, 1, 1, 5, 6, 0, 1, 0, 6, 1, 0, 2, 10, 3, 4, 9, (byte) 255, 0, 1, 0, (byte) 128, 1, 0, 5, (byte) 200, 1, 0, 0, 2});
        C.due("row()", x.row(), 3);
        C.due("wrong()", x.wrong(), 8);
        C.due("the last one stays", x.box(0, 3), 0);
        C.due("3 to 4", x.box(3, 6), 9);
        C.due("the tape is empty", x.count(8), 0);
        C.due("refused", x.row(), -6);
        C.due("wrong() stays", x.wrong(), 8);
        Check.feed(x, new byte[] {0, 1});
        C.due("all wrong", x.row(), 0);
        C.due("status 0", x.status(), 0);
        C.due("wrong()", x.wrong(), 1);
        Check.feed(x, new byte[] {0, 1, 4});
        x.end(2);
        C.due("what was behind the end is gone", x.row(), 0);
        Check.feed(x, new byte[] {0, 1, 4});
        C.due("all right", x.row(), 1);
        C.due("wrong()", x.wrong(), 0);
    }

    private static void fault(String text, int want) {
        C.due("fault of law '" + text + "'", Check.lawFault(text), want);
    }

    private static void lawTexts() {
        C.part("14, 16 law, fault: texts");
        fault("tells 1", -1);
        fault("  tells1if2<3and not4=5or6>7  ", -1);
        fault("tells1if2<3andnot4=5", 11);
        fault("bars", -1);
        fault("bars;bars ; soaks mood", -1);
        fault("goes cloud+kind-rage*box/folk%knows+wet-night*mood", -1);
        fault("tells [[1]] if ((1=[1]))", -1);
        fault("tells 0001000", -1);
        fault("tells 1000", -1);
        fault("", 0);
        fault("     ", 5);
        fault("tells  ", 7);
        fault(" tells", 6);
        fault("tells 1001", 6);
        fault("tells 99999999999999999999", 6);
        fault("Tells 1", 0);
        fault("tellss 1", 0);
        fault("ring 1 to 1", 0);
        fault(";", 0);
        fault("bars;", 5);
        fault("bars; ", 6);
        fault("bars;;bars", 5);
        fault("bars 1", 5);
        fault("tells 1 2", 8);
        fault("tells -1", 6);
        fault("tells 1 if", 10);
        fault("tells 1 if 1", 12);
        fault("tells 1 if 1 1", 13);
        fault("tells 1 if 1 < 2 < 3", 17);
        fault("tells 1 if (1) = 1", 13);
        fault("tells (1)", 6);
        fault("tells 1 if [1 = 1]", 14);
        fault("tells 1 if not", 14);
        fault("tells 1 if 1 = 1 or", 19);
        fault("tells 1 if 1 = 1 if 1 = 1", 17);
        fault("tells 1 times 2", 8);
        fault("tells at 1", 6);
        fault("tells done", 6);
        fault("tells if", 6);
        fault("tells 1 if and", 11);
        fault("tells 1\n", 7);
        fault("tells 1\t", 7);
        fault("tells " + (char) 233, 6);
        fault("tells " + (char) 0, 6);
        fault("tells [1)", 8);
        fault("bars if (1=1]", 12);
        fault("tellsz 1", 0);
        fault("tells 1a", 7);
        fault("tells;bars", 5);
        fault("tells 1+;bars", 8);
        fault("tells 1*;bars", 8);
        fault("tells [;bars", 7);
        fault("tells [1;bars", 8);
        fault("bars if;bars", 7);
        fault("bars if 1;bars", 9);
        fault("bars if 1=;bars", 10);
        fault("bars if not;bars", 11);
        fault("bars if (;bars", 9);
        fault("bars if (1=1;bars", 12);
        fault("bars if 1=1 and;bars", 15);
        fault("bars if 1=1 and or 2=2", 16);
        fault("bars if 1=1 or;bars", 14);
        fault("bars if 1=1 or and 2=2", 15);
    }

    private static void lawLimits() {
        C.part("14, 16 law, fault: limits");
        String twelve = "bars" + ";bars".repeat(11);
        fault(twelve, -1);
        fault(twelve + ";", 60);
        fault(twelve + ";bars", 60);
        fault(twelve + ";  bars", 62);
        fault(twelve + ";  x", 62);
        fault(twelve + "; ", 61);
        String fifty = "tells 1" + "+1".repeat(49);
        fault(fifty, -1);
        fault(fifty + "+1", fifty.length() + 1);
        fault(fifty + "+night", fifty.length() + 1);
        fault(fifty + "+", fifty.length() + 1);
        fault(fifty + "+[1]", fifty.length() + 2);
        fault(fifty + ";bars if 1=1", fifty.length() + 9);
        fault(fifty + ";bars", -1);
        fault("goes " + "[".repeat(8) + "1" + "]".repeat(8), -1);
        fault("goes " + "[".repeat(9) + "1" + "]".repeat(9), 13);
        fault("bars if " + "(".repeat(8) + "1=1" + ")".repeat(8), -1);
        fault("bars if " + "(".repeat(9) + "1=1" + ")".repeat(9), 16);
        fault("bars if " + "(".repeat(4) + "[[[[1]]]]=[[[[1]]]]" + ")".repeat(4), -1);
        fault("bars if " + "(".repeat(4) + "[[[[[1]]]]]=1" + ")".repeat(4), 16);
        fault("bars if (1=1) and ".repeat(1) + "(2=2) and ".repeat(10) + "3=3", -1);
        fault("bars if " + "not ".repeat(90) + "1=1", -1);
        CloudCalls x = new CloudCalls();
        for (int i = 0; i < 6; i++) {
            C.due("law " + i, Check.law(x, "tells " + i), i);
        }
        Check.law(new CloudCalls(), "x");
        Check.feed(x, "tells x");
        C.due("a seventh", x.law(), -5);
        C.due("it was not read", x.fault(), -1);
        C.due("the tape is empty", x.count(8), 0);
        C.due("laws", x.count(6), 6);
        CloudCalls y = new CloudCalls();
        C.due("a fault", Check.law(y, "tells x"), -6);
        C.due("its place", y.fault(), 6);
        C.due("no law", y.count(6), 0);
        C.due("the tape is empty", y.count(8), 0);
        C.due("then one", Check.law(y, "tells 1"), 0);
        C.due("without", y.fault(), -1);
    }

    /** What a "tells" (of cloud 1: kind 2, rage 6, box 3; folk 1: ears for it, wet 4; night 7, mood 8) tells. */
    private static int told(String sum) {
        CloudCalls x = new CloudCalls();
        x.cloud(0, 0, 0);
        x.cloud(2, 6, 3);
        x.folk(0, 0);
        x.folk(3, 4);
        x.terms(0, 7);
        x.terms(2, 8);
        Check.law(x, "soaks 4");
        x.force(0);
        x.engage(1);
        x.ring(1, 1);
        Check.law(x, sum);
        x.force(1);
        return x.asks(1, 1, 0);
    }

    private static void lawMeaning() {
        C.part("6 asks by a law");
        String[] words = {"cloud", "kind", "rage", "box", "folk", "knows", "wet", "night", "mood"};
        int[] values = {1, 2, 6, 3, 1, 1, 4, 7, 8};
        for (int i = 0; i < words.length; i++) {
            C.due(words[i], told("tells " + words[i]), values[i]);
        }
        C.due("to the nearest", told("tells 10"), 9);
        C.due("to the nearest below", told("tells 0 - 1"), 0);
        C.due("the last", told("tells 1; tells 2; soaks 3"), 2);
        C.due("the last that holds", told("tells 1; tells 2; tells 3 if kind = 1"), 2);
        C.due("none holds", told("tells 1 if kind = 1"), 6);
        C.due("other verbs", told("soaks 1; goes 2; bars"), 6);
        C.due("* before +", told("tells 1 + 2 * 3"), 7);
        C.due("from the left", told("tells 9 - 3 - 2"), 4);
        C.due("from the left", told("tells 8 / 2 * 2"), 8);
        C.due("brackets", told("tells 8 / [2 * 2]"), 2);
        C.due("cut towards 0", told("tells [0 - 7] / 2 + 9"), 6);
        C.due("what is left", told("tells [0 - 7] % 4 + 9"), 6);
        C.due("what is left", told("tells 7 % [0 - 4] + 1"), 4);
        C.due("and before or", told("tells 1; tells 2 if 1 = 1 or 1 = 1 and 1 = 2"), 2);
        C.due("brackets in a test", told("tells 1; tells 2 if (1 = 1 or 1 = 1) and 1 = 2"), 1);
        C.due("not", told("tells 1; tells 2 if not 1 = 1 or 1 = 1"), 2);
        C.due("not not", told("tells 1; tells 2 if not not 1 = 1"), 2);
        C.due("not in brackets", told("tells 1; tells 2 if not (1 = 1 or 1 = 1)"), 1);
        C.due("<", told("tells 1; tells 2 if 1 < 1"), 1);
        C.due(">", told("tells 1; tells 2 if 2 > 1"), 2);
        CloudCalls x = new CloudCalls();
        x.cloud(1, 5, 0);
        x.folk(0, 1);
        Check.law(x, "tells 3 + knows; soaks 20; soaks 0 - 20 if folk = 1");
        x.force(0);
        C.due("told without ears, too", x.asks(0, 0, 0), 3);
        C.due("soaks by nine", x.asks(0, 0, 1), 9);
        x.folk(0, 1);
        C.due("soaks by nothing", x.asks(0, 1, 1), 0);
    }

    private static void brokenSums() {
        C.part("II broken");
        String million = "1000*1000*1000";
        C.due("divided by 0", told("tells 1; tells 1 / 0"), 1);
        C.due("what is left by 0", told("tells 1; tells 1 % [1 - 1]"), 1);
        C.due("a thousand million", told("tells 1; tells " + million), 9);
        C.due("one more", told("tells 1; tells " + million + " + 1"), 1);
        C.due("one more and less", told("tells 1; tells " + million + " + 1 - 1"), 1);
        C.due("less", told("tells 1; tells 0 - " + million), 0);
        C.due("one less", told("tells 1; tells 0 - " + million + " - 1 + 9"), 1);
        C.due("a large one", told("tells 1; tells " + million + "*1000*1000*1000*1000"), 1);
        C.due("a broken if", told("tells 1; tells 2 if 1 / 0 = 0"), 1);
        C.due("not a broken if", told("tells 1; tells 2 if not 1 / 0 = 0"), 1);
        C.due("so, or broken", told("tells 1; tells 2 if 1 = 1 or 1 / 0 = 0"), 2);
        C.due("broken, or so", told("tells 1; tells 2 if 1 / 0 = 0 or 1 = 1"), 1);
        C.due("not so, and broken", told("tells 1; tells 2 if not (1 = 2 and 1 / 0 = 0)"), 2);
        C.due("so, and broken", told("tells 1; tells 2 if 1 = 1 and 1 / 0 = 0 or 1 = 1"), 1);
        C.due("not so and broken, or so", told("tells 1; tells 2 if 1 = 2 and 1 / 0 = 0 and 1 / 0 = 0 or 1 = 1"), 2);
        C.due("so, or broken or broken", told("tells 1; tells 2 if 1 = 1 or 1 / 0 = 0 or 1 / 0 = 0"), 2);
        C.due("bars with a broken if", told("bars if 1 / 0 = 0; tells 2"), 2);
    }

    private static void goesAndBars() {
        C.part("3, 6 goes, bars");
        CloudCalls x = new CloudCalls();
        x.cloud(0, 1, 2);
        x.folk(2, 1);
        x.road(2, 3, 1);
        x.road(2, 0, 1);
        C.due("without a law", x.of(0, 3), 3);
        Check.law(x, "goes 0");
        Check.law(x, "goes 6");
        Check.law(x, "goes 0 - 1");
        Check.law(x, "goes folk + 1 if knows = 0 - 1 and wet = 0 - 1");
        Check.law(x, "goes 4");
        Check.law(x, "goes 3; goes 1 / 0; bars if kind = 0; bars if kind = 1");
        int[] goals = {0, 2, 2, 0, 2, 3};
        for (int i = 0; i < 6; i++) {
            x.force(i);
            C.due("by law " + i, x.of(0, 3), goals[i]);
            C.due("barred by law " + i, x.asks(0, 0, 2), i == 5 ? 0 : 1);
        }
        C.due("ring", x.ring(0, 0), -3);
        x.force(4);
        C.due("ring", x.ring(0, 0), 1);
        x.force(0);
        x.smash(0);
        C.due("to a smashed box, too", x.of(0, 3), 0);
    }

    private static void ordersFault(String text, int want) {
        C.due("fault of orders '" + text + "'", Check.ordersFault(text), want);
    }

    private static void ordersTexts() {
        C.part("15, 16 orders, fault");
        ordersFault("pass", -1);
        ordersFault("pass times 20", -1);
        ordersFault("pass times 1 if 1 = 1", -1);
        ordersFault("pass times 21", 11);
        ordersFault("pass times 0", 11);
        ordersFault("pass times", 10);
        ordersFault("pass times night", 11);
        ordersFault("pass times 1 times 1", 13);
        ordersFault("pass if 1 = 1 times 2", 14);
        ordersFault("pass 1", 5);
        ordersFault("ring 0 to 0 times 3", -1);
        ordersFault("ring 0 0", 7);
        ordersFault("ring to 0", 5);
        ordersFault("ring 0 if 1 = 1", 7);
        ordersFault("ring 0 times 2", 7);
        ordersFault("ring 0 to if 1 = 1", 10);
        ordersFault("ring 0 to;pass", 9);
        ordersFault("pass times;pass", 10);
        ordersFault("pass times if 1 = 1", 11);
        ordersFault("ring 0 to", 9);
        ordersFault("ring 0 times 2 to 0", 7);
        ordersFault("engage at 5 + busy 4", -1);
        ordersFault("engage at5+busy4", -1);
        ordersFault("engage at 6", 10);
        ordersFault("engage busy 5", 12);
        ordersFault("engage at", 9);
        ordersFault("engage at night", 10);
        ordersFault("engage busy [1]", 12);
        ordersFault("smash night + done + latest + learnt + soaked", -1);
        ordersFault("smash cloud", 6);
        ordersFault("tells 1", 0);
        ordersFault("", 0);
        ordersFault("  ", 2);
        ordersFault("pass;", 5);
        String twelve = "pass" + ";pass".repeat(11);
        ordersFault(twelve, -1);
        ordersFault(twelve + ";pass", 60);
        String fifty = "smash 0" + "+1".repeat(48) + "+at 0";
        ordersFault(fifty, -1);
        ordersFault(fifty + " times 3", -1);
        ordersFault(fifty + "+at 0", fifty.length() + 1);
        ordersFault(fifty + " times 3 if 1 = 1", fifty.length() + 12);
    }

    private static CloudCalls village() {
        CloudCalls x = new CloudCalls();
        x.cloud(0, 3, 0);
        x.cloud(1, 5, 1);
        x.folk(0, 3);
        x.folk(1, 2);
        x.road(0, 1, 1);
        x.road(1, 2, 1);
        return x;
    }

    private static void ordersRun() {
        C.part("15, 17 orders, stopped");
        CloudCalls x = village();
        C.due("ring 0 to 0", Check.orders(x, "ring 0 to 0"), 1);
        C.due("knowing", x.at(0, 4), 3);
        C.due("the tape is empty", x.count(8), 0);
        C.due("three times", Check.orders(x, "ring 1 to 1 times 3"), 3);
        C.due("knowing", x.at(1, 4), 15);
        C.due("learnt", Check.orders(x, "pass if learnt = 18; pass if learnt = 17"), 1);
        C.due("night", Check.orders(x, "pass times 9 if night < 3"), 2);
        C.due("night", x.count(15), 3);
        C.due("at, of none", Check.orders(x, "engage 0 if at 0 = 2 and at 1 = 2 and at 2 = 0 - 1"), 1);
        C.due("busy, of none", Check.orders(x, "engage 1 if busy 0 = 1 and busy 1 = 0 and busy 2 = 0 - 1"), 1);
        C.due("soaked", Check.orders(x, "ring 0 to 0; ring 1 to 1 if soaked = 3; pass if soaked = 8"), 3);
        C.due("latest at first", Check.orders(x, "pass if latest = 0 - 1"), 1);
        C.due("latest", Check.orders(x, "ring 0 to 0 times 2 if latest = 0 - 1; engage 0 if latest = 3; pass if latest = 3"), 3);
        C.due("done", Check.orders(x, "pass times 3; pass times 5 if done < 5; smash done - 5 if done = 5"), 6);
        C.due("smashed", x.count(2), 1);
        C.due("none run", Check.orders(x, "pass if 1 = 2; pass if 1 / 0 = 1"), 0);
        C.due("status", x.status(), 0);
        C.due("stopped", x.stopped(), -1);
        C.due("sums", Check.orders(x, "smash 2 - 2"), 1);
        C.due("not smashed", x.count(2), 0);
        C.due("all of them", Check.orders(x, "pass times 20;".repeat(11) + "pass times 20"), 240);
    }

    private static void ordersUndone() {
        C.part("15, 17 orders that can't be");
        CloudCalls x = village();
        x.smash(5);
        x.engage(1);
        String[] last = {"ring 2 to 0", "ring 0 to 2", "ring 0 - 1 to 0", "engage 2", "engage 0 - 1", "smash 6", "smash 0 - 1", "smash 1 / 0",
            "ring 0 to 1 / 0", "ring 1 / 0 to 0", "smash 1000 * 1000 * 1000 + 1"};
        for (String l : last) {
            C.due(l, Check.orders(x, "pass times 2; ring 0 to 0; engage 0; smash 3; engage 1 times 20 if 1 = 1; " + l), -3);
            C.due("status", x.status(), -3);
            C.due("stopped", x.stopped(), 5);
            C.due("fault", x.fault(), -1);
            C.due("night", x.count(15), 0);
            C.due("box", x.of(0, 2), 0);
            C.due("knowing", x.count(3), 0);
            C.due("wet", x.count(4), 0);
            C.due("engaged", x.at(0, 2), 0);
            C.due("engaged", x.at(1, 2), 1);
            C.due("smashed", x.count(2), 32);
            C.due("undone can be", x.count(7), 2);
        }
        C.due("-3 by orders alone", x.count(11), last.length);
        C.due("no other", x.count(9) + x.count(10), 0);
        C.due("the latest is undone", x.undo(), 1);
        C.due("then", x.undo(), 2);
        C.due("then", x.undo(), -3);
        C.due("a fault", Check.orders(x, "pass; x"), -6);
        C.due("nothing stopped", x.stopped(), -1);
        C.due("nothing run", x.count(15), 0);
        x.terms(0, 998);
        C.due("night 999", Check.orders(x, "pass times 2"), -3);
        C.due("stopped", x.stopped(), 0);
        C.due("night", x.count(15), 998);
        C.due("undone can be", x.count(7), 0);
        x.smash(0);
        C.due("not joined", Check.orders(x, "engage 0; ring 0 to 0"), -3);
        C.due("stopped", x.stopped(), 1);
        C.due("engaged", x.at(0, 2), 0);
        for (int i = 0; i < 20; i++) {
            x.engage(i % 2);
        }
        C.due("sixteen", Check.orders(x, "smash 1 times 19; smash 6"), -3);
        for (int i = 0; i < 16; i++) {
            C.due("engage undone", x.undo(), 1);
        }
        C.due("no more", x.undo(), -3);
    }

    private static void force() {
        C.part("18 force");
        CloudCalls x = new CloudCalls();
        C.due("none", x.force(-1), -1);
        C.due("no such", x.force(0), -2);
        C.due("no such", x.force(-2), -2);
        Check.law(x, "tells 1");
        Check.law(x, "tells 2");
        C.due("force(1)", x.force(1), -1);
        C.due("force(0)", x.force(0), 1);
        C.due("no such", x.force(2), -2);
        C.due("count(14)", x.count(14), 0);
        C.due("none", x.force(-1), 0);
        C.due("count(14)", x.count(14), -1);
    }

    private static void ring() {
        C.part("19 ring");
        CloudCalls x = village();
        C.due("ring(0, 0)", x.ring(0, 0), 3);
        C.due("without ears", x.ring(0, 1), 0);
        C.due("no cloud", x.ring(2, 0), -2);
        C.due("no cloud", x.ring(-1, 0), -2);
        C.due("no folk", x.ring(0, 2), -2);
        C.due("no folk", x.ring(0, MIN), -2);
        x.smash(1);
        C.due("not joined", x.ring(0, 1), -3);
        C.due("its own box is smashed", x.ring(1, 1), -3);
        C.due("no cloud, ahead of all", x.ring(9, 1), -2);
        x.smash(1);
        Check.law(x, "tells 9; soaks 9");
        x.force(0);
        for (int i = 0; i < 120; i++) {
            C.due("told", x.ring(1, 0), 9);
        }
        C.due("knowing", x.at(0, 4), 999);
        x.engage(0);
        for (int i = 0; i < 120; i++) {
            C.due("soaked", x.ring(1, 0), 9);
        }
        C.due("wet", x.at(0, 3), 999);
        C.due("knowing", x.at(0, 4), 999);
        C.due("all wet", x.count(4), 999);
    }

    private static void engageSmashPass() {
        C.part("20 .. 22 engage, smash, pass");
        CloudCalls x = village();
        C.due("engage(0)", x.engage(0), 1);
        C.due("engage(0)", x.engage(0), 0);
        C.due("engage(2)", x.engage(2), -2);
        C.due("engage(-1)", x.engage(-1), -2);
        C.due("smash(5)", x.smash(5), 1);
        C.due("smash(0)", x.smash(0), 1);
        C.due("smash(5)", x.smash(5), 0);
        C.due("smash(6)", x.smash(6), -1);
        C.due("smash(-1)", x.smash(-1), -1);
        C.due("smash(MIN)", x.smash(MIN), -1);
        x.smash(1);
        C.due("pass()", x.pass(), 1);
        C.due("over a smashed box", x.of(0, 2), 1);
        C.due("and from it", x.of(1, 2), 2);
        x.terms(0, 998);
        C.due("pass()", x.pass(), 999);
        C.due("pass()", x.pass(), -3);
        C.due("night", x.count(15), 999);
        C.due("it stays", x.of(0, 2), 2);
        CloudCalls y = village();
        Check.law(y, "goes 0 if night = 1; goes 2 if night = 0 and cloud = 1");
        y.force(0);
        y.pass();
        C.due("asked as it was ahead", y.of(1, 2), 2);
        y.pass();
        C.due("asked as it was ahead", y.of(0, 2), 0);
    }

    private static void undo() {
        C.part("23 undo");
        CloudCalls x = village();
        C.due("none", x.undo(), -3);
        x.ring(0, 0);
        x.engage(0);
        x.ring(1, 0);
        x.smash(2);
        x.pass();
        C.due("five", x.count(7), 5);
        x.ring(9, 9);
        x.smash(9);
        x.cloud(9, 9, 9);
        x.folk(9, 9);
        x.terms(9, 9);
        C.due("refused ones change nothing", x.count(7), 5);
        x.road(0, 1, 0);
        x.heard(0, 0);
        Check.law(x, "tells 1");
        x.force(0);
        x.forget();
        x.image(0);
        x.seasons(1, 1);
        C.due("nor do others", x.count(7), 5);
        C.due("pass", x.undo(), 3);
        C.due("night", x.count(15), 0);
        C.due("box", x.of(0, 2), 0);
        C.due("the road stays as it is", x.box(0, 3), 0);
        C.due("smash", x.undo(), 2);
        C.due("smashed", x.count(2), 0);
        C.due("ring", x.undo(), 0);
        C.due("wet", x.at(0, 3), 0);
        C.due("knowing", x.at(0, 4), 3);
        C.due("engage", x.undo(), 1);
        C.due("engaged", x.at(0, 2), 0);
        C.due("ring", x.undo(), 0);
        C.due("knowing", x.at(0, 4), 0);
        C.due("no more", x.undo(), -3);
        for (int i = 0; i < 17; i++) {
            x.pass();
        }
        C.due("sixteen are kept", x.count(7), 16);
        for (int i = 0; i < 16; i++) {
            C.due("pass", x.undo(), 3);
        }
        C.due("no more", x.undo(), -3);
        C.due("night", x.count(15), 1);
        for (int i = 0; i < 3; i++) {
            x.smash(3);
            C.due("one", x.count(7), 1);
            C.due("changes", i == 0 ? x.cloud(0, 0, 0) : i == 1 ? x.folk(0, 0) - 2 : x.terms(2, 0), i == 0 ? 2 : 0);
            C.due("nothing ahead of it", x.undo(), -3);
        }
        C.due("by orders, too", Check.orders(x, "pass; smash 0 times 2"), 3);
        C.due("smash", x.undo(), 2);
        C.due("smashed", x.box(0, 0), 1);
        CloudCalls y = village();
        Check.law(y, "tells 9");
        y.force(0);
        for (int i = 0; i < 112; i++) {
            y.ring(0, 0);
        }
        y.undo();
        C.due("what was cut off does not come back", y.at(0, 4), 999);
        y.undo();
        C.due("999 is 111 times nine", y.at(0, 4), 990);
    }

    private static void whereFirstMeetingAgain() {
        C.part("24 .. 27 where, first, meeting, again");
        CloudCalls x = new CloudCalls();
        C.due("no clouds", x.again(), 1);
        C.due("no clouds", x.first(0, 0), -1);
        for (int b = 0; b < 6; b++) {
            x.road(b, (b + 1) % 6, 1);
        }
        x.cloud(0, 1, 0);
        x.cloud(1, 1, 3);
        C.due("where(0, 0)", x.where(0, 0), 0);
        C.due("where(0, 7)", x.where(0, 7), 1);
        C.due("where(0, 60)", x.where(0, 60), 0);
        C.due("where(0, 61)", x.where(0, 61), -1);
        C.due("where(0, -1)", x.where(0, -1), -1);
        C.due("where(2, 0)", x.where(2, 0), -1);
        C.due("where(-1, 0)", x.where(-1, 0), -1);
        C.due("first(0, 0)", x.first(0, 0), 0);
        C.due("first(5, 0)", x.first(5, 0), 2);
        C.due("first(5, 1)", x.first(5, 1), 1);
        C.due("first(5, 2)", x.first(5, 2), -1);
        C.due("first(6, 0)", x.first(6, 0), -1);
        C.due("first(-1, 0)", x.first(-1, 0), -1);
        C.due("they never meet", x.meeting(0, 1), -1);
        C.due("again", x.again(), 6);
        Check.law(x, "goes box if kind = 1; goes 5 - 5 if night > 1000 and kind = 1");
        x.force(0);
        C.due("one waits", x.meeting(0, 1), 3);
        C.due("the other way", x.meeting(1, 0), 3);
        C.due("one alone", x.meeting(1, 1), -1);
        C.due("no such", x.meeting(0, 2), -1);
        C.due("no such", x.meeting(-1, 0), -1);
        x.road(3, 0, 1);
        x.terms(0, 990);
        C.due("beyond night 999", x.where(1, 11), 3);
        C.due("beyond night 999", x.where(1, 12), 0);
        C.due("nothing is done", x.count(15) + x.of(1, 2), 993);
        CloudCalls y = new CloudCalls();
        y.cloud(0, 1, 0);
        y.road(0, 1, 1);
        Check.law(y, "goes box; goes 1 if night = 59; goes 0 if box = 1");
        y.force(0);
        C.due("in sixty", y.first(1, 0), 60);
        C.due("which", y.first(1, 1), 0);
        C.due("again in one", y.again(), 1);
        Check.law(y, "goes box; goes 1 if night = 60");
        y.force(1);
        C.due("not in sixty", y.first(1, 0), -1);
        Check.law(y, "goes box; goes 1 if night = 0; goes 0 if night = 59; goes 1 if night = 60");
        y.force(2);
        C.due("again in sixty", y.again(), 60);
        y.cloud(0, 1, 0);
        C.due("meeting now", y.meeting(0, 1), 0);
        y.cloud(0, 1, 1);
        y.terms(0, 0);
        Check.law(y, "goes box; goes 0 if night = 59 and cloud = 2");
        y.force(3);
        C.due("meeting in sixty", y.meeting(0, 2), 60);
        y.terms(0, 1);
        C.due("again in one", y.again(), 1);
        C.due("in fifty-nine", y.meeting(2, 0), 59);
        Check.law(y, "goes box; goes 0 if night = 61 and cloud = 2");
        y.force(4);
        C.due("not in sixty", y.meeting(0, 2), -1);
        CloudCalls z = new CloudCalls();
        z.cloud(0, 1, 0);
        z.cloud(1, 1, 2);
        z.cloud(2, 1, 2);
        z.road(0, 1, 1);
        z.road(2, 1, 1);
        Check.law(z, "goes 1");
        z.force(0);
        C.due("two at once", z.first(1, 0), 1);
        C.due("the lowest", z.first(1, 1), 0);
        C.due("of those there now", z.first(2, 1), 1);
        C.due("not again", z.again(), -1);
    }

    private static void answered() {
        C.part("28 answered");
        CloudCalls x = new CloudCalls();
        C.due("nothing", x.answered(0), 0);
        C.due("nobody", x.answered(1), -1);
        x.cloud(0, 5, 0);
        x.cloud(1, 4, 0);
        C.due("no folk", x.answered(0), 0);
        C.due("by nobody", x.answered(1), 5);
        x.folk(0, 3);
        C.due("the more", x.answered(0), 5);
        C.due("by 0", x.answered(1), 0);
        C.due("by nobody", x.answered(2), 5);
        x.folk(0, 1);
        C.due("both", x.answered(0), 9);
        C.due("by 1", x.answered(1), 1);
        C.due("by 0", x.answered(2), 0);
        x.folk(0, 31);
        C.due("first as a row", x.answered(1), 0);
        C.due("first as a row", x.answered(2), 2);
        x.engage(0);
        C.due("not by one engaged", x.answered(1), 1);
        C.due("how much", x.answered(0), 9);
        x.engage(2);
        C.due("how much", x.answered(0), 5);
        C.due("nobody for none", x.answered(2), 5);
        x.cloud(4, 9, 0);
        C.due("0 by one rather than by nobody", x.answered(3), 5);
        x.engage(2);
        C.due("how much", x.answered(0), 14);
        C.due("0", x.answered(1), 1);
        C.due("1", x.answered(2), 5);
        C.due("2", x.answered(3), 2);
        x.smash(0);
        C.due("none could ring", x.answered(0), 0);
        C.due("nobody", x.answered(1), 5);
        C.due("what 4", x.answered(4), -1);
        C.due("what 7", x.answered(7), -1);
        C.due("what -1", x.answered(-1), -1);
        C.due("what MIN", x.answered(MIN), -1);
        CloudCalls y = new CloudCalls();
        y.cloud(0, 0, 0);
        y.folk(0, 0);
        C.due("told nothing, by 0 all the same", y.answered(1), 0);
        Check.law(y, "bars");
        y.force(0);
        C.due("barred", y.answered(1), 5);
    }

    private static void heardCanBeAsk() {
        C.part("29 .. 32 heard, forget, canBe, ask");
        CloudCalls x = new CloudCalls();
        C.due("told 10, nobody", x.heard(0, 10), -1);
        C.due("told -1", x.heard(0, -1), -1);
        C.due("nobody", x.heard(0, 9), -2);
        C.due("can be", x.canBe(), 0);
        x.folk(0, 7);
        C.due("no clouds to ask of", x.ask(0), -1);
        C.due("none left", x.ask(1), -1);
        for (int i = 1; i <= 6; i++) {
            C.due("heard", x.heard(0, 9), i);
        }
        C.due("a seventh", x.heard(0, 9), -5);
        C.due("no such", x.heard(1, 9), -2);
        C.due("no such", x.heard(-1, 9), -2);
        C.due("wrong", x.heard(-1, 10), -1);
        C.due("count(5)", x.count(5), 6);
        C.due("forget", x.forget(), 6);
        C.due("forget", x.forget(), 0);
        x.folk(1, 1);
        x.folk(2, 31);
        x.cloud(0, 3, 5);
        x.cloud(1, 3, 5);
        x.cloud(2, 4, 5);
        x.cloud(3, 3, 5);
        C.due("all", x.canBe(), 15);
        C.due("whom: 3 3 4 0, 3 0 0 0, 3 3 4 3", x.ask(0), 0);
        C.due("left at most", x.ask(1), 2);
        x.heard(0, 3);
        C.due("3", x.canBe(), 3);
        C.due("whom", x.ask(0), 1);
        C.due("left at most", x.ask(1), 1);
        x.heard(1, 0);
        C.due("and 0", x.canBe(), 2);
        C.due("the lowest", x.ask(0), 0);
        x.heard(2, 9);
        C.due("none", x.canBe(), 0);
        C.due("none left", x.ask(0), -1);
        C.due("ask(2)", x.ask(2), -1);
        C.due("ask(-1)", x.ask(-1), -1);
        x.forget();
        Check.law(x, "bars if folk = 1 and cloud > 1; tells 0 if folk = 1; tells 5 if folk = 0; tells 5 if folk = 2");
        x.force(0);
        C.due("barred ones are alike", x.ask(0), 1);
        C.due("two and two", x.ask(1), 2);
        x.heard(1, 0);
        C.due("not barred ones", x.canBe(), 3);
        CloudCalls y = new CloudCalls();
        y.cloud(0, 1, 0);
        C.due("nobody to ask", y.ask(0), -1);
        C.due("nobody to ask", y.ask(1), -1);
        C.due("can be", y.canBe(), 1);
    }

    private static void way() {
        C.part("33 way");
        CloudCalls x = new CloudCalls();
        x.road(0, 1, 2);
        x.road(1, 3, 2);
        x.road(0, 2, 1);
        x.road(2, 3, 3);
        x.road(0, 3, 5);
        C.due("long", x.way(0, 3, -1), 4);
        C.due("over 1", x.way(0, 3, 0), 1);
        C.due("to 3", x.way(0, 3, 1), 3);
        C.due("no further", x.way(0, 3, 2), -1);
        C.due("back", x.way(3, 0, 0), 1);
        x.road(0, 3, 4);
        C.due("the first as a row", x.way(0, 3, 0), 1);
        C.due("the first as a row", x.way(3, 0, 0), 0);
        x.road(0, 1, 3);
        C.due("straight", x.way(0, 3, 1), 3);
        x.road(0, 3, 0);
        x.road(2, 3, 4);
        C.due("over 1", x.way(0, 3, 0), 1);
        C.due("smashed aside", x.smash(1) + x.way(0, 3, -1), 6);
        C.due("over a smashed one", x.way(0, 3, 0), 1);
        C.due("from a smashed one", x.way(1, 3, -1), 2);
        C.due("there is none", x.way(0, 4, -1), -1);
        C.due("there is none", x.way(0, 4, 0), -1);
        C.due("to itself", x.way(4, 4, -1), 0);
        C.due("to itself", x.way(4, 4, 0), -1);
        C.due("way(0, 3, -2)", x.way(0, 3, -2), -1);
        C.due("way(0, 3, MAX)", x.way(0, 3, MAX), -1);
        C.due("way(6, 0, -1)", x.way(6, 0, -1), -1);
        C.due("way(0, -1, -1)", x.way(0, -1, -1), -1);
        CloudCalls y = new CloudCalls();
        for (int b = 0; b < 5; b++) {
            y.road(b, b + 1, 9);
        }
        C.due("all along", y.way(5, 0, -1), 45);
        C.due("the last", y.way(5, 0, 4), 0);
        C.due("behind it", y.way(5, 0, 5), -1);
    }

    private static void part() {
        C.part("34 part");
        CloudCalls x = new CloudCalls();
        C.due("not joined", x.part(0, 5, 0), 0);
        C.due("one alone", x.part(3, 3, 0), -1);
        x.road(0, 1, 1);
        x.road(0, 2, 1);
        x.road(1, 3, 1);
        x.road(2, 3, 1);
        x.road(3, 4, 1);
        C.due("two", x.part(0, 3, 0), 2);
        C.due("which", x.part(0, 3, 1), 6);
        C.due("one", x.part(0, 4, 0), 1);
        C.due("which", x.part(0, 4, 1), 8);
        C.due("neighbours", x.part(0, 1, 0), -1);
        C.due("neighbours", x.part(0, 1, 1), -1);
        x.road(4, 5, 1);
        C.due("the lowest", x.part(0, 5, 1), 8);
        x.smash(1);
        C.due("others not smashed", x.part(0, 3, 1), 4);
        x.smash(0);
        C.due("itself smashed", x.part(0, 2, 0), 0);
        C.due("itself smashed", x.part(0, 2, 1), 0);
        C.due("what 2", x.part(0, 3, 2), -1);
        C.due("what -1", x.part(0, 3, -1), -1);
        C.due("box 6", x.part(0, 6, 0), -1);
        C.due("box -1", x.part(-1, 0, 0), -1);
    }

    private static void leaveNeeded() {
        C.part("35, 36 leave, needed");
        CloudCalls x = new CloudCalls();
        C.due("nobody", x.leave(0), 0);
        C.due("none", x.leave(1), 0);
        x.folk(0, 0);
        C.due("one", x.leave(0), 1);
        C.due("which", x.leave(1), 1);
        x.folk(3, 0);
        C.due("it can't be", x.leave(0), -1);
        C.due("it can't be", x.leave(1), -1);
        x.road(0, 1, 9);
        x.road(1, 3, 9);
        x.road(0, 2, 1);
        x.road(2, 3, 1);
        C.due("three", x.leave(0), 3);
        C.due("the lowest", x.leave(1), 11);
        C.due("none needed", x.needed(), 0);
        x.road(3, 4, 1);
        C.due("3 needed", x.needed(), 8);
        x.smash(1);
        C.due("the other", x.leave(1), 13);
        C.due("2, 3 needed", x.needed(), 12);
        x.smash(2);
        C.due("parted", x.leave(0), -1);
        x.smash(2);
        x.smash(3);
        C.due("hers is smashed", x.leave(0), -1);
        C.due("2 ends", x.needed(), 0);
        C.due("leave(2)", x.leave(2), -1);
        C.due("leave(-1)", x.leave(-1), -1);
    }

    private static void fair() {
        C.part("37 fair");
        CloudCalls x = new CloudCalls();
        C.due("nobody", x.fair(0), -1);
        x.folk(0, 31);
        x.folk(0, 31);
        x.folk(1, 31);
        C.due("nothing", x.fair(0), 0);
        x.cloud(0, 3, 0);
        x.cloud(0, 5, 0);
        x.cloud(0, 4, 0);
        x.cloud(0, 1, 5);
        C.due("3 and 4", x.fair(0), 7);
        C.due("5", x.fair(1), 5);
        C.due("it can't ring to her", x.fair(2), 0);
        x.engage(0);
        x.ring(0, 0);
        x.ring(1, 1);
        C.due("engaged or not, from nothing", x.fair(0), 7);
        x.road(0, 1, 1);
        C.due("3", x.fair(0), 3);
        C.due("5", x.fair(1), 5);
        C.due("4", x.fair(2), 4);
        C.due("fair(3)", x.fair(3), -1);
        C.due("fair(-1)", x.fair(-1), -1);
        Check.law(x, "bars if folk = 0; tells 1 if folk = 1");
        x.force(0);
        C.due("barred", x.fair(0), 0);
        C.due("1 and 1", x.fair(1), 2);
        C.due("5", x.fair(2), 5);
    }

    private static void few() {
        C.part("38 few");
        CloudCalls x = new CloudCalls();
        C.due("few(1, 0)", x.few(1, 0), 1000000000000L);
        C.due("few(20, 0)", x.few(20, 0), 1000000000000L);
        C.due("few(1, 1)", x.few(1, 1), 900000000000L);
        C.due("few(2, 1)", x.few(2, 1), 1000000000000L);
        C.due("few(3, 3)", x.few(3, 3), 999000000000L);
        C.due("few(20, 99)", x.few(20, 99) > 998000000000L && x.few(20, 99) < 1000000000000L ? 1 : 0, 1);
        C.due("few(0, 5)", x.few(0, 5), -1);
        C.due("few(21, 5)", x.few(21, 5), -1);
        C.due("few(1, -1)", x.few(1, -1), -1);
        C.due("few(1, 100)", x.few(1, 100), -1);
        x.terms(1, 0);
        C.due("none fades", x.few(1, 99), 1000000000000L);
        x.terms(1, 10);
        C.due("all fade", x.few(19, 19), 0);
        C.due("all fade", x.few(20, 19), 1000000000000L);
        x.terms(1, 3);
        // 10^12 times 0.7 to the 15th, cut from the 13th on.
        long part = 1000000000000L;
        for (int i = 0; i < 15; i++) {
            part = part * 7 / 10;
        }
        C.due("cut", x.few(1, 15), part);
    }

    private static void compare() {
        C.part("39 compare");
        CloudCalls x = village();
        Check.law(x, "tells 9");
        Check.law(x, "bars");
        C.due("as it is", x.compare(-1), x.answered(0));
        C.due("8", x.compare(-1), 8);
        C.due("18", x.compare(0), 18);
        C.due("0", x.compare(1), 0);
        C.due("no such", x.compare(2), -1);
        C.due("no such", x.compare(-2), -1);
        x.force(0);
        C.due("none", x.compare(-1), 8);
        C.due("in force all the same", x.answered(0), 18);
        C.due("count(14)", x.count(14), 0);
    }

    private static void seasons() {
        C.part("40, 41 seasons, drawn");
        CloudCalls x = new CloudCalls();
        C.due("none", x.seasons(0, 1), -3);
        C.due("wrong", x.seasons(-1, 1), -1);
        C.due("wrong", x.seasons(1000001, 1), -1);
        C.due("wrong", x.seasons(0, 0), -1);
        C.due("wrong", x.seasons(0, 61), -1);
        x.cloud(0, 3, 0);
        C.due("no folk", x.seasons(0, 1), -3);
        x.folk(0, 1);
        C.due("drawn, ahead of any", x.drawn(0, 0), -1);
        // Of one cloud and one of the folk: only the third draw matters.
        int seed = 7;
        long s = seed;
        int knowing = 0;
        int wet = 0;
        int rang = 0;
        boolean engaged = false;
        boolean smashed = false;
        for (int i = 0; i < 60; i++) {
            for (int k = 0; k < 3; k++) {
                s = (s * 1103 + 12345) % 1000003;
            }
            if (s % 4 < 2 && !smashed) {
                rang++;
                knowing += engaged ? 0 : 3;
                wet += engaged ? 3 : 0;
            }
            engaged ^= s % 4 == 2;
            smashed ^= s % 4 == 3;
        }
        C.due("sixty", x.seasons(seed, 60), rang);
        C.due("wet", x.drawn(0, 1), wet);
        C.due("knowing", x.drawn(0, 2), knowing);
        C.due("box", x.drawn(0, 0), 0);
        C.due("on paper", x.count(3) + x.count(4) + x.count(15) + x.count(2) + x.count(7), 0);
        x.cloud(0, 3, 0);
        x.folk(0, 1);
        C.due("a cloud that came later", x.drawn(1, 0), -1);
        C.due("folk that came later", x.drawn(1, 1), -1);
        C.due("what 3", x.drawn(0, 3), -1);
        C.due("what -1", x.drawn(0, -1), -1);
        C.due("k -1", x.drawn(-1, 0), -1);
        C.due("k -1", x.drawn(-1, 2), -1);
        x.seasons(0, 61);
        C.due("a refused one is not kept", x.drawn(0, 2), knowing);
        C.due("seed 1,000,000", x.seasons(1000000, 1) >= 0 ? 1 : 0, 1);
        x.road(0, 1, 1);
        x.terms(0, 999);
        C.due("at night 999", x.seasons(5, 60), 0);
        C.due("it stays", x.drawn(0, 0), 0);
        C.due("it is there now", x.drawn(1, 0), 0);
        x.terms(0, 998);
        x.seasons(5, 60);
        C.due("one night", x.drawn(0, 0), 1);
    }

    private static void images() {
        C.part("42, 43 image, back");
        CloudCalls x = village();
        C.due("image(2)", x.image(2), -1);
        C.due("image(-1)", x.image(-1), -1);
        C.due("back(2)", x.back(2), -1);
        C.due("back(-1)", x.back(-1), -1);
        C.due("not kept", x.back(0), -2);
        Check.law(x, "tells 4");
        x.force(0);
        x.heard(0, 4);
        x.ring(0, 0);
        C.due("image(0)", x.image(0), 0);
        C.due("undo is left", x.count(7), 1);
        C.due("not kept", x.back(1), -2);
        x.pass();
        x.engage(0);
        x.ring(1, 0);
        x.smash(4);
        Check.law(x, "tells 5");
        x.force(1);
        x.forget();
        x.cloud(0, 0, 0);
        x.folk(0, 0);
        x.terms(1, 7);
        x.terms(2, 8);
        x.road(0, 1, 0);
        Check.feed(x, new byte[] {9});
        x.row();
        Check.orders(x, "smash 6");
        Check.law(x, "x");
        x.seasons(3, 3);
        int drawn = x.drawn(2, 0);
        Check.feed(x, "abc");
        C.due("image(1)", x.image(1), 0);
        x.smash(3);
        C.due("back(0)", x.back(0), 0);
        int[] due = {2, 2, 0, 4, 0, 1, 1, 0, 3};
        for (int what = 0; what < due.length; what++) {
            C.due("count(" + what + ")", x.count(what), due[what]);
        }
        C.due("refused stay", x.count(9), 4);
        C.due("force", x.count(14), 0);
        C.due("night", x.count(15), 0);
        C.due("fades", x.count(16), 1);
        C.due("mood", x.count(17), 0);
        C.due("the road", x.box(0, 3), 1);
        C.due("box", x.of(0, 2), 0);
        C.due("engaged", x.at(0, 2), 0);
        C.due("wrong stays", x.wrong(), 1);
        C.due("fault stays", x.fault(), 0);
        C.due("stopped stays", x.stopped(), 0);
        C.due("seasons stay", x.drawn(2, 0), drawn);
        C.due("nothing to undo", x.undo(), -3);
        C.due("the law", x.asks(0, 0, 0), 4);
        x.end(0);
        C.due("another law", Check.law(x, "tells 6"), 1);
        C.due("back(1)", x.back(1), 0);
        C.due("laws", x.count(6), 2);
        C.due("the other law", x.asks(0, 0, 0), 5);
        C.due("smashed", x.count(2), 16);
        C.due("clouds", x.count(0), 3);
        C.due("images stay", x.back(0), 0);
        C.due("clouds", x.count(0), 2);
        x.cloud(1, 1, 1);
        C.due("image(0) anew", x.image(0), 0);
        x.back(1);
        x.back(0);
        C.due("clouds", x.count(0), 3);
        C.due("fades", x.count(16), 1);
    }

    private static void countAndStatus() {
        C.part("44, 45 count, status");
        CloudCalls x = new CloudCalls();
        x.cloud(9, 9, 9);
        C.due("cloud", x.status(), -1);
        x.ring(0, 0);
        C.due("ring", x.status(), -2);
        x.undo();
        C.due("undo", x.status(), -3);
        x.row();
        C.due("row", x.status(), -6);
        x.canBe();
        x.of(9, 9);
        x.feed(0, 0, 0, 0, 0);
        x.end(0);
        x.forget();
        C.due("others do not count", x.status(), -6);
        x.pass();
        C.due("pass", x.status(), 0);
        for (int i = 0; i < 6; i++) {
            x.folk(0, 0);
        }
        C.due("folk", x.status(), -5);
        int[] due = {1, 1, 1, 1, 1};
        for (int i = 0; i < 5; i++) {
            C.due("count(" + (9 + i) + ")", x.count(9 + i), due[i]);
        }
        x.image(0);
        x.smash(7);
        x.back(0);
        C.due("back", x.status(), 0);
        C.due("refused stay", x.count(9), 2);
        int[][] calls = {{x.road(0, 0, 0), x.status()}, {x.terms(9, 0), x.status()}, {x.law(), x.status()}, {x.orders(), x.status()},
            {x.force(3), x.status()}, {x.engage(7), x.status()}, {x.smash(9), x.status()}, {x.heard(0, 99), x.status()},
            {x.seasons(1, 1), x.status()}, {x.image(9), x.status()}, {x.back(1), x.status()}};
        int[] why = {-1, -1, -6, -6, -2, -2, -1, -1, -3, -1, -2};
        for (int i = 0; i < calls.length; i++) {
            C.due("call " + i, calls[i][0], why[i]);
            C.due("its status", calls[i][1], why[i]);
        }
        C.due("-1", x.count(9), 7);
        C.due("-2", x.count(10), 4);
        C.due("-3", x.count(11), 2);
        C.due("-5", x.count(12), 1);
        C.due("-6", x.count(13), 3);
        C.due("count(18)", x.count(18), -1);
        C.due("count(-1)", x.count(-1), -1);
        C.due("count(MAX)", x.count(MAX), -1);
    }
}
