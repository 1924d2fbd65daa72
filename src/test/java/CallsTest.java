/** The document's promises, sentence by sentence: what each call answers, at its edges, beyond them, refused. */
final class CallsTest {
    private static final Check C = new Check();
    private static final int MIN = Integer.MIN_VALUE;
    private static final int MAX = Integer.MAX_VALUE;
    private static final int[] FAR = {MIN, MIN + 1, -7, -3, -2, MAX - 1, MAX};
    private static Sentences say;

    public static void main(String[] args) throws Exception {
        say = new Sentences(C);
        newObject();
        cloudAndOf();
        folkAndAt();
        asks();
        roadAndBox();
        terms();
        feedAndEnd();
        rowAndWrong();
        law();
        ordersAndFault();
        stoppedAndForce();
        ring();
        engageSmashPass();
        undo();
        whereAndFirst();
        meetingAndAgain();
        answered();
        heardAndForget();
        canBeAndAsk();
        wayAndPart();
        leaveNeededFair();
        fewAndCompare();
        seasonsAndDrawn();
        imageAndBack();
        count();
        status();
        refusedCallsChangeNothing();
        say.closePromises(45);
        C.close("CallsTest");
    }

    /** Three boxes in a row, a cloud and one of the folk in the first two. */
    private static CloudCalls village() {
        CloudCalls x = new CloudCalls();
        x.cloud(0, 3, 0);
        x.cloud(1, 5, 1);
        x.folk(0, 3);
        x.folk(1, 2);
        x.road(0, 1, 1);
        x.road(1, 2, 1);
        return x;
    }

    private static CloudCalls circle() {
        CloudCalls x = new CloudCalls();
        for (int b = 0; b < 6; b++) {
            x.road(b, (b + 1) % 6, 1);
        }
        return x;
    }

    private static CloudCalls under(CloudCalls x, String law) {
        int number = Check.law(x, law);
        C.holds("'" + law + "' is a law", number >= 0);
        x.force(number);
        return x;
    }

    private static void refusedBy(CloudCalls x, String call, int got, int why) {
        C.due(call, got, why);
        C.due(call + ": status", x.status(), why);
    }

    private static void newObject() {
        say.promise(1, "`CloudCalls()`: An empty circuit.");
        CloudCalls x = new CloudCalls();
        int[] counts = {0, 0, 0, 0, 0, 0, 0, 0, 0, 0, 0, 0, 0, 0, -1, 0, 1, 0};
        for (int what = 0; what < counts.length; what++) {
            C.due("count(" + what + ")", x.count(what), counts[what]);
        }
        C.due("wrong, status", x.wrong() + x.status(), 0);
        C.due("fault", x.fault(), -1);
        C.due("stopped", x.stopped(), -1);
        for (int b = 0; b < 6; b++) {
            for (int what = 0; what < 8; what++) {
                C.due("box(" + b + ", " + what + ")", x.box(b, what), 0);
            }
        }
        C.due("no cloud", x.of(0, 0), -1);
        C.due("no folk", x.at(0, 0), -1);
        C.due("no seasons", x.drawn(0, 0), -1);
        C.due("nothing to undo", x.undo(), -3);
        C.due("no image", x.back(0), -2);
        C.due("no image", x.back(1), -2);
        CloudCalls y = village();
        C.due("another object is another circuit", new CloudCalls().count(0) * 10 + y.count(0), 2);
    }

    private static void cloudAndOf() {
        say.promise(2, "`int cloud(int kind, int rage, int box)`: A CLOUD: its number.");
        CloudCalls x = new CloudCalls();
        for (int c = 0; c < 6; c++) {
            C.due("its number", x.cloud(4 - c % 5, 9 - c, 5 - c), c);
            C.due("so many", x.count(0), c + 1);
        }
        say.promise(2, "-1; -5.");
        refusedBy(x, "no room", x.cloud(0, 0, 0), -5);
        refusedBy(x, "-1 ahead of it", x.cloud(-1, 0, 0), -1);
        CloudCalls y = new CloudCalls();
        int[][] wrong = {{-1, 0, 0}, {5, 0, 0}, {0, -1, 0}, {0, 10, 0}, {0, 0, -1}, {0, 0, 6}};
        for (int[] w : wrong) {
            refusedBy(y, "cloud(" + w[0] + ", " + w[1] + ", " + w[2] + ")", y.cloud(w[0], w[1], w[2]), -1);
        }
        for (int far : FAR) {
            refusedBy(y, "kind " + far, y.cloud(far, 0, 0), -1);
            refusedBy(y, "rage " + far, y.cloud(0, far, 0), -1);
            refusedBy(y, "box " + far, y.cloud(0, 0, far), -1);
        }
        C.due("none came", y.count(0), 0);
        C.due("the first is 0 all the same", y.cloud(0, 0, 0), 0);
        say.promise(3, "`int of(int cloud, int what)`: Of a CLOUD the KIND (what 0), RAGE (1), the BOX (2), to which BOX it GOES (3).");
        for (int c = 0; c < 6; c++) {
            C.due("kind", x.of(c, 0), 4 - c % 5);
            C.due("rage", x.of(c, 1), 9 - c);
            C.due("box", x.of(c, 2), 5 - c);
            C.due("it stays", x.of(c, 3), 5 - c);
        }
        x.road(5, 0, 1);
        C.due("0 behind 5", x.of(0, 3), 0);
        C.due("it is where it was", x.of(0, 2), 5);
        say.promise(3, "NONE.");
        for (int far : FAR) {
            C.due("cloud " + far, x.of(far, 0), -1);
            C.due("what " + far, x.of(0, far), -1);
        }
        C.due("cloud -1", x.of(-1, 0), -1);
        C.due("cloud 6", x.of(6, 2), -1);
        C.due("what -1", x.of(0, -1), -1);
        C.due("what 4", x.of(0, 4), -1);
        C.due("cloud 1 of one", y.of(1, 0), -1);
        C.due("goes of none", y.of(1, 3), -1);
    }

    private static void folkAndAt() {
        say.promise(4, "`int folk(int box, int ears)`: One of the FOLK: the number.");
        CloudCalls x = new CloudCalls();
        for (int f = 0; f < 5; f++) {
            C.due("the number", x.folk(f + 1, 31 - f), f);
            C.due("so many", x.count(1), f + 1);
        }
        say.promise(4, "-1; -5.");
        refusedBy(x, "no room", x.folk(0, 0), -5);
        refusedBy(x, "-1 ahead of it", x.folk(6, 0), -1);
        refusedBy(x, "-1 ahead of it", x.folk(0, 32), -1);
        CloudCalls y = new CloudCalls();
        int[][] wrong = {{-1, 0}, {6, 0}, {0, -1}, {0, 32}};
        for (int[] w : wrong) {
            refusedBy(y, "folk(" + w[0] + ", " + w[1] + ")", y.folk(w[0], w[1]), -1);
        }
        for (int far : FAR) {
            refusedBy(y, "box " + far, y.folk(far, 0), -1);
            refusedBy(y, "ears " + far, y.folk(0, far), -1);
        }
        C.due("nobody came", y.count(1), 0);
        C.due("the least", y.folk(0, 0), 0);
        C.due("the most", y.folk(5, 31), 1);
        say.promise(5, "`int at(int folk, int what)`: Of FOLK the BOX (what 0), EARS (1), whether ENGAGED (2: 1, 0), WET (3), KNOWING (4).");
        for (int f = 0; f < 5; f++) {
            C.due("box", x.at(f, 0), f + 1);
            C.due("ears", x.at(f, 1), 31 - f);
            C.due("engaged", x.at(f, 2), 0);
            C.due("wet, knowing", x.at(f, 3) + x.at(f, 4), 0);
        }
        x.cloud(0, 7, 3);
        x.ring(0, 2);
        x.engage(2);
        x.ring(0, 2);
        x.ring(0, 2);
        C.due("engaged", x.at(2, 2), 1);
        C.due("wet", x.at(2, 3), 14);
        C.due("knowing", x.at(2, 4), 7);
        say.promise(5, "NONE.");
        for (int far : FAR) {
            C.due("folk " + far, x.at(far, 0), -1);
            C.due("what " + far, x.at(0, far), -1);
        }
        C.due("folk -1", x.at(-1, 0), -1);
        C.due("folk 5", x.at(5, 0), -1);
        C.due("what -1", x.at(0, -1), -1);
        C.due("what 5", x.at(0, 5), -1);
        C.due("folk 2 of two", y.at(2, 3), -1);
    }

    private static void asks() {
        say.promise(6, "`int asks(int cloud, int folk, int what)`: Of a CLOUD and FOLK what it TELLS (what 0), by what it SOAKS (1), whether it could RING now (2: 1, 0).");
        CloudCalls x = under(village(), "tells 4+cloud; soaks 2+folk; bars if cloud=1 and folk=0");
        int[][] due = {{4, 2, 1}, {4, 3, 1}, {5, 2, 0}, {5, 3, 1}};
        for (int i = 0; i < 4; i++) {
            for (int what = 0; what < 3; what++) {
                C.due("asks(" + i / 2 + ", " + i % 2 + ", " + what + ")", x.asks(i / 2, i % 2, what), due[i][what]);
            }
        }
        x.engage(1);
        C.due("engaged or not", x.asks(0, 1, 2), 1);
        C.due("told though engaged", x.asks(0, 1, 0), 4);
        x.smash(1);
        C.due("not now", x.asks(0, 1, 2) + x.asks(1, 1, 2), 0);
        C.due("told wherever it is", x.asks(0, 1, 0), 4);
        C.due("nothing is done", x.count(3) + x.count(4), 0);
        say.promise(6, "NONE.");
        for (int far : FAR) {
            C.due("cloud " + far, x.asks(far, 0, 0), -1);
            C.due("folk " + far, x.asks(0, far, 1), -1);
            C.due("what " + far, x.asks(0, 0, far), -1);
        }
        for (int what = 0; what < 3; what++) {
            C.due("cloud -1", x.asks(-1, 0, what), -1);
            C.due("cloud 2", x.asks(2, 0, what), -1);
            C.due("folk -1", x.asks(0, -1, what), -1);
            C.due("folk 2", x.asks(0, 2, what), -1);
        }
        C.due("what -1", x.asks(0, 0, -1), -1);
        C.due("what 3", x.asks(0, 0, 3), -1);
    }

    private static void roadAndBox() {
        say.promise(7, "`int road(int one, int other, int length)`: A ROAD between two BOXES, so LONG (0: none): what it was (0: none).");
        CloudCalls x = new CloudCalls();
        C.due("none was", x.road(0, 5, 9), 0);
        C.due("9 was", x.road(0, 5, 1), 9);
        C.due("1 was, from the other", x.road(5, 0, 0), 1);
        C.due("none was", x.road(0, 5, 0), 0);
        C.due("none is", x.box(0, 7), 0);
        for (int one = 0; one < 6; one++) {
            for (int other = 0; other < 6; other++) {
                if (one != other) {
                    x.road(one, other, 4);
                    C.due("joined, both ways", x.box(one, 1) << 6 | x.box(other, 1), 1 << other + 6 | 1 << one);
                    x.road(one, other, 0);
                    C.due("none, both ways", x.box(one, 1) + x.box(other, 1), 0);
                }
            }
        }
        x = new CloudCalls();
        say.promise(7, "-1 (one alone, too).");
        for (int b = 0; b < 6; b++) {
            refusedBy(x, "one alone", x.road(b, b, 1), -1);
            refusedBy(x, "one alone, none", x.road(b, b, 0), -1);
        }
        int[][] wrong = {{-1, 0, 1}, {6, 0, 1}, {0, -1, 1}, {0, 6, 1}, {0, 1, -1}, {0, 1, 10}};
        for (int[] w : wrong) {
            refusedBy(x, "road(" + w[0] + ", " + w[1] + ", " + w[2] + ")", x.road(w[0], w[1], w[2]), -1);
        }
        for (int far : FAR) {
            refusedBy(x, "one " + far, x.road(far, 0, 1), -1);
            refusedBy(x, "other " + far, x.road(0, far, 1), -1);
            refusedBy(x, "long " + far, x.road(0, 1, far), -1);
        }
        for (int b = 0; b < 6; b++) {
            C.due("none came", x.box(b, 1), 0);
        }
        say.promise(8, "`int box(int box, int what)`: Of a BOX whether SMASHED (what 0: 1, 0), to which others it is JOINED, as bits (1), how LONG the ROAD to BOX b is (2 + b; 0: none).");
        x = new CloudCalls();
        x.road(0, 5, 3);
        x.road(5, 2, 9);
        C.due("not smashed", x.box(0, 0), 0);
        C.due("joined to others, not itself", x.box(0, 1), 36);
        C.due("joined to none", x.box(1, 1), 0);
        C.due("to 5", x.box(0, 7), 3);
        C.due("to 2: no road", x.box(0, 4), 0);
        C.due("to itself", x.box(0, 2), 0);
        C.due("from the other", x.box(2, 7) * 10 + x.box(5, 2), 93);
        x.smash(5);
        C.due("smashed", x.box(5, 0), 1);
        C.due("joined no more", x.box(0, 1) + x.box(2, 1) + x.box(5, 1), 0);
        C.due("the road stays", x.box(0, 7), 3);
        say.promise(8, "NONE.");
        for (int far : FAR) {
            C.due("box " + far, x.box(far, 0), -1);
            C.due("what " + far, x.box(0, far), -1);
        }
        for (int what = 0; what < 8; what++) {
            C.due("box -1", x.box(-1, what), -1);
            C.due("box 6", x.box(6, what), -1);
        }
        C.due("what -1", x.box(0, -1), -1);
        C.due("what 8", x.box(0, 8), -1);
    }

    private static void terms() {
        say.promise(9, "`int terms(int what, int value)`: A TERM: what it was.");
        CloudCalls x = new CloudCalls();
        int[] most = {999, 10, 9};
        int[] was = {0, 1, 0};
        for (int t = 0; t < 3; t++) {
            C.due("what it was", x.terms(t, most[t]), was[t]);
            C.due("what it was", x.terms(t, 0), most[t]);
            C.due("what it was", x.terms(t, t + 5), 0);
        }
        C.due("each its own", x.count(15) * 100 + x.count(16) * 10 + x.count(17), 567);
        say.promise(9, "-1.");
        for (int t = 0; t < 3; t++) {
            refusedBy(x, "below", x.terms(t, -1), -1);
            refusedBy(x, "beyond", x.terms(t, most[t] + 1), -1);
        }
        refusedBy(x, "what -1", x.terms(-1, 0), -1);
        refusedBy(x, "what 3", x.terms(3, 0), -1);
        for (int far : FAR) {
            refusedBy(x, "what " + far, x.terms(far, 0), -1);
            refusedBy(x, "value " + far, x.terms(1, far), -1);
        }
        C.due("as they were", x.count(15) * 100 + x.count(16) * 10 + x.count(17), 567);
    }

    private static void feedAndEnd() {
        say.promise(10, "`int feed(int a, int b, int c, int d, int e)`: Twenty bytes come behind the TAPE, four of each number, the highest first: how many it has.");
        CloudCalls x = new CloudCalls();
        C.due("twenty", x.feed(0x00010101, 0x02020203, 0x03030404, 0x04050500, 0x05060004), 20);
        C.due("it has", x.count(8), 20);
        C.due("six roads, a part", x.row() * 10 + x.wrong(), 61);
        for (int b = 0; b < 5; b++) {
            C.due("road " + b, x.box(b, 3 + b), b + 1);
        }
        C.due("0 to 5", x.box(0, 7), 6);
        C.due("negative numbers are bytes, too", x.feed(-1, MIN, MAX, -256, 0), 20);
        C.due("all wrong", x.row() * 10 + x.wrong(), 7);
        x.feed(0, 0, 0, 0, 0);
        x.end(1);
        C.due("behind what it has", x.feed(0x05010000, 0, 0, 0, 0), 21);
        C.due("a road 0 to 5", x.row() * 10 + x.box(0, 7), 11);
        say.promise(10, "NONE, if there would be more than 400.");
        x = new CloudCalls();
        for (int i = 1; i <= 20; i++) {
            C.due("feed", x.feed(i, 0, 0, 0, 0), 20 * i);
        }
        C.due("400, no more", x.feed(0, 0, 0, 0, 0), -1);
        x.end(381);
        C.due("401, no", x.feed(0, 0, 0, 0, 0), -1);
        C.due("it stays", x.count(8), 381);
        x.end(380);
        C.due("400", x.feed(0, 0, 0, 0, 0), 400);
        C.due("no call is refused", x.status() + x.count(9) + x.count(12) + x.count(13), 0);
        say.promise(11, "`int end(int n)`: The TAPE has its first n bytes alone: n.");
        C.due("all", x.end(400), 400);
        C.due("fewer", x.end(7), 7);
        C.due("it has", x.count(8), 7);
        C.due("as many", x.end(7), 7);
        C.due("none", x.end(0), 0);
        C.due("none", x.end(0), 0);
        Check.feed(x, "bars;bars x");
        x.end(9);
        C.due("the first alone", x.law(), 0);
        say.promise(11, "NONE, if it has not so many, or n is below 0.");
        C.due("not so many", x.end(1), -1);
        x.feed(0, 0, 0, 0, 0);
        C.due("one more", x.end(21), -1);
        C.due("one below", x.end(-1), -1);
        for (int far : FAR) {
            C.due("end(" + far + ")", x.end(far), -1);
        }
        C.due("it stays", x.count(8), 20);
        C.due("no call is refused", x.status() + x.count(9), 0);
    }

    private static void rowAndWrong() {
        say.promise(12, "`int row()`: A ROW, the TAPE is empty then: how many ROADS were told.");
        CloudCalls x = new CloudCalls();
        Check.feed(x, new byte[] {0, 1, 5, 1, 0, 0, 0, 0, 1, 2, 3, 9, 4});
        C.due("three", x.row(), 3);
        C.due("the tape is empty", x.count(8), 0);
        C.due("not refused", x.status(), 0);
        Check.feed(x, new byte[] {7, 7, 7});
        C.due("none told", x.row(), 0);
        C.due("that is not refused", x.status(), 0);
        C.due("the tape is empty", x.count(8), 0);
        byte[] full = new byte[400];
        for (int i = 0; i + 2 < 400; i += 3) {
            full[i + 1] = 1;
            full[i + 2] = (byte) (i / 3 % 10);
        }
        Check.feed(x, full);
        C.due("a full tape", x.row(), 133);
        C.due("its end", x.wrong(), 1);
        C.due("the last stays", x.box(0, 3), 2);
        say.promise(12, "-6 the TAPE is empty.");
        refusedBy(x, "empty", x.row(), -6);
        x.feed(0, 0, 0, 0, 0);
        x.end(0);
        refusedBy(x, "emptied", x.row(), -6);
        say.promise(13, "`int wrong()`: How many WRONG NUMBERS the latest row() had that was not REFUSED (0 ahead of any).");
        C.due("a refused one does not matter", x.wrong(), 1);
        CloudCalls y = new CloudCalls();
        C.due("ahead of any", y.wrong(), 0);
        y.row();
        C.due("ahead of any that was not refused", y.wrong(), 0);
        Check.feed(y, new byte[] {0, 0, 0, 9, 9, 9, 1});
        y.row();
        C.due("three", y.wrong(), 3);
        Check.feed(y, new byte[] {0, 1, 1});
        y.row();
        C.due("of the latest alone", y.wrong(), 0);
    }

    private static void law() {
        say.promise(14, "`int law()`: The TAPE, which is empty then, becomes a LAW: its number.");
        CloudCalls x = village();
        for (int i = 0; i < 6; i++) {
            C.due("its number", Check.law(x, "tells " + (i + 1)), i);
            C.due("the tape is empty", x.count(8), 0);
            C.due("so many", x.count(6), i + 1);
        }
        for (int i = 0; i < 6; i++) {
            x.force(i);
            C.due("each its own", x.asks(0, 0, 0), i + 1);
        }
        say.promise(14, "-5 (ahead of reading it; the TAPE is empty then, too)");
        Check.feed(x, "tells 1");
        refusedBy(x, "no room", x.law(), -5);
        C.due("the tape is empty", x.count(8), 0);
        Check.feed(x, "x");
        refusedBy(x, "not read", x.law(), -5);
        C.due("no fault", x.fault(), -1);
        C.due("the tape is empty", x.count(8), 0);
        refusedBy(x, "not even empty", x.law(), -5);
        C.due("six", x.count(6), 6);
        say.promise(14, "-6 (blanks alone: FAULT at the end).");
        x = new CloudCalls();
        refusedBy(x, "empty", x.law(), -6);
        C.due("fault", x.fault(), 0);
        Check.feed(x, "      ");
        refusedBy(x, "blanks alone", x.law(), -6);
        C.due("fault", x.fault(), 6);
        C.due("the tape is empty", x.count(8), 0);
        Check.feed(x, "bars x");
        refusedBy(x, "a fault", x.law(), -6);
        C.due("fault", x.fault(), 5);
        C.due("the tape is empty", x.count(8), 0);
        C.due("none came", x.count(6), 0);
        C.due("the first is 0 all the same", Check.law(x, "bars"), 0);
    }

    private static void ordersAndFault() {
        say.promise(15, "`int orders()`: ORDERS, the TAPE is empty then: how many were run.");
        CloudCalls x = village();
        C.due("none", Check.orders(x, "pass if 1=2"), 0);
        C.due("not refused", x.status(), 0);
        C.due("the tape is empty", x.count(8), 0);
        C.due("some", Check.orders(x, "pass times 3; ring 0 to 0; engage 1; smash 4 times 2"), 7);
        C.due("most", Check.orders(x, "engage 0 times 20" + ";engage 0 times 20".repeat(11)), 240);
        C.due("sixteen can be undone", x.count(7), 16);
        say.promise(15, "-3 one can't be");
        Check.feed(x, "pass; smash 6");
        refusedBy(x, "a box 6", x.orders(), -3);
        C.due("the tape is empty", x.count(8), 0);
        C.due("one refused", x.count(11), 1);
        C.due("by -3 alone", x.count(9) + x.count(10) + x.count(12) + x.count(13), 0);
        C.due("the others are not run", x.count(15), 3);
        say.promise(15, "-6 (as for law()).");
        refusedBy(x, "empty", x.orders(), -6);
        C.due("fault", x.fault(), 0);
        Check.feed(x, "   ");
        refusedBy(x, "blanks alone", x.orders(), -6);
        C.due("fault", x.fault(), 3);
        Check.feed(x, "pass; pass x");
        refusedBy(x, "a fault", x.orders(), -6);
        C.due("fault", x.fault(), 11);
        C.due("the tape is empty", x.count(8), 0);
        C.due("nothing was run", x.count(15), 3);
        say.promise(16, "`int fault()`: FAULT of the latest law(), orders() that read a TEXT: its place; NONE without.");
        CloudCalls y = new CloudCalls();
        C.due("ahead of any", y.fault(), -1);
        Check.law(y, "bars x");
        C.due("of a law", y.fault(), 5);
        Check.orders(y, "pass");
        C.due("without", y.fault(), -1);
        Check.orders(y, "pass pass");
        C.due("of orders", y.fault(), 5);
        y.row();
        Check.feed(y, new byte[] {0, 1, 1});
        y.row();
        C.due("a row reads no text", y.fault(), 5);
        Check.orders(y, "smash 7");
        C.due("orders that can't be have none", y.fault(), -1);
        for (int i = 0; i < 6; i++) {
            Check.law(y, "bars");
        }
        Check.orders(y, " x");
        C.due("fault", y.fault(), 1);
        Check.law(y, "bars");
        C.due("a law without room reads none", y.fault(), 1);
        C.due("asked twice", y.fault(), 1);
    }

    private static void stoppedAndForce() {
        say.promise(17, "`int stopped()`: Which CLAUSE of the latest orders() could not be.");
        CloudCalls x = village();
        String eleven = "pass;".repeat(11);
        Check.orders(x, "smash 6; pass");
        C.due("the first", x.stopped(), 0);
        Check.orders(x, eleven + "smash 6");
        C.due("the twelfth", x.stopped(), 11);
        Check.orders(x, "pass if 1=2; engage 0 times 3; smash 5+done-3 times 2; pass");
        C.due("at its second time", x.stopped(), 2);
        say.promise(17, "NONE.");
        Check.orders(x, "pass");
        C.due("none", x.stopped(), -1);
        Check.orders(x, "smash 6");
        Check.orders(x, "x");
        C.due("none of a text with a fault", x.stopped(), -1);
        Check.orders(x, "smash 6");
        x.law();
        x.smash(6);
        C.due("of orders alone", x.stopped(), 0);
        C.due("ahead of any", new CloudCalls().stopped(), -1);
        say.promise(18, "`int force(int law)`: A LAW is in FORCE (NONE: none): which was.");
        x = village();
        C.due("none was, none is", x.force(-1), -1);
        Check.law(x, "tells 7");
        Check.law(x, "tells 8");
        C.due("made, not in force", x.count(14), -1);
        C.due("none was", x.force(1), -1);
        C.due("1 was", x.force(1), 1);
        C.due("1 was", x.force(0), 1);
        C.due("told by 0", x.asks(0, 0, 0), 7);
        C.due("0 was", x.force(-1), 0);
        C.due("told by none", x.asks(0, 0, 0), 3);
        say.promise(18, "-2.");
        x.force(1);
        refusedBy(x, "2", x.force(2), -2);
        for (int far : FAR) {
            refusedBy(x, "" + far, x.force(far), -2);
        }
        refusedBy(x, "6", x.force(6), -2);
        C.due("in force as it was", x.count(14), 1);
    }

    private static void ring() {
        say.promise(19, "`int ring(int cloud, int folk)`: To RING: how much more WET, KNOWING is (what 999 cuts off, too).");
        CloudCalls x = under(village(), "tells 9; soaks 8; tells 0 if cloud=1");
        C.due("knowing", x.ring(0, 0), 9);
        C.due("nothing more is no refusal", x.ring(1, 0) + x.status(), 0);
        C.due("it can be undone all the same", x.count(7), 2);
        x.engage(0);
        C.due("wet", x.ring(0, 0), 8);
        for (int i = 0; i < 130; i++) {
            C.due("wet, cut off or not", x.ring(0, 0), 8);
        }
        C.due("wet", x.at(0, 3), 999);
        x.engage(0);
        for (int i = 0; i < 115; i++) {
            C.due("knowing, cut off or not", x.ring(0, 0), 9);
        }
        C.due("knowing", x.at(0, 4), 999);
        say.promise(19, "-2; -3.");
        x = village();
        for (int far : FAR) {
            refusedBy(x, "cloud " + far, x.ring(far, 0), -2);
            refusedBy(x, "folk " + far, x.ring(0, far), -2);
        }
        refusedBy(x, "cloud -1", x.ring(-1, 0), -2);
        refusedBy(x, "cloud 2", x.ring(2, 0), -2);
        refusedBy(x, "folk -1", x.ring(0, -1), -2);
        refusedBy(x, "folk 2", x.ring(0, 2), -2);
        x.smash(1);
        refusedBy(x, "not joined", x.ring(0, 1), -3);
        refusedBy(x, "a smashed box", x.ring(1, 1), -3);
        refusedBy(x, "-2 ahead of -3", x.ring(1, 2), -2);
        x.smash(1);
        under(x, "bars if folk=0");
        refusedBy(x, "barred", x.ring(0, 0), -3);
        C.due("nothing more", x.count(3) + x.count(4), 0);
        C.due("only what was done can be undone", x.count(7), 2);
    }

    private static void engageSmashPass() {
        say.promise(20, "`int engage(int folk)`: To ENGAGE: whether she is then (1, 0).");
        CloudCalls x = village();
        C.due("she is", x.engage(1), 1);
        C.due("she is not", x.engage(1), 0);
        C.due("she is", x.engage(1), 1);
        say.promise(20, "-2.");
        refusedBy(x, "2", x.engage(2), -2);
        refusedBy(x, "-1", x.engage(-1), -2);
        refusedBy(x, "5", x.engage(5), -2);
        for (int far : FAR) {
            refusedBy(x, "" + far, x.engage(far), -2);
        }
        C.due("three can be undone", x.count(7), 3);
        say.promise(21, "`int smash(int box)`: To SMASH: whether it is then (1, 0).");
        x = village();
        for (int b = 0; b < 6; b++) {
            C.due("it is", x.smash(b), 1);
        }
        C.due("all", x.count(2), 63);
        for (int b = 0; b < 6; b++) {
            C.due("it is not", x.smash(b), 0);
        }
        C.due("none", x.count(2), 0);
        say.promise(21, "-1.");
        refusedBy(x, "6", x.smash(6), -1);
        refusedBy(x, "-1", x.smash(-1), -1);
        for (int far : FAR) {
            refusedBy(x, "" + far, x.smash(far), -1);
        }
        refusedBy(x, "32", x.smash(32), -1);
        C.due("none", x.count(2), 0);
        C.due("twelve can be undone", x.count(7), 12);
        say.promise(22, "`int pass()`: A NIGHT: its number.");
        C.due("1", x.pass(), 1);
        C.due("they went", x.of(0, 2) * 10 + x.of(1, 2), 12);
        C.due("2", x.pass(), 2);
        C.due("it stays where no road leads on", x.of(0, 2) * 10 + x.of(1, 2), 22);
        x.terms(0, 998);
        C.due("999", x.pass(), 999);
        C.due("without clouds, too", new CloudCalls().pass(), 1);
        say.promise(22, "-3.");
        refusedBy(x, "no more", x.pass(), -3);
        C.due("999", x.count(15), 999);
        C.due("one can be undone", x.count(7), 1);
        C.due("it is", x.undo() * 1000 + x.count(15), 3998);
        C.due("then it can be", x.pass(), 999);
    }

    private static void undo() {
        say.promise(23, "`int undo()`: The latest ring(), engage(), smash(), pass() (by ORDERS, too; 16 are kept) is undone: 0 .. 3.");
        CloudCalls x = village();
        x.ring(0, 0);
        x.engage(0);
        x.ring(1, 0);
        x.smash(5);
        x.pass();
        C.due("a night", x.undo(), 3);
        C.due("as it was", x.count(15) * 100 + x.of(0, 2) * 10 + x.of(1, 2), 1);
        C.due("a smashed box", x.undo(), 2);
        C.due("as it was", x.count(2), 0);
        C.due("a ring that soaked", x.undo(), 0);
        C.due("as it was", x.at(0, 3) * 10 + x.at(0, 4), 3);
        C.due("one engaged", x.undo(), 1);
        C.due("as it was", x.at(0, 2), 0);
        C.due("a ring that told", x.undo(), 0);
        C.due("as it was", x.at(0, 4), 0);
        C.due("by orders", Check.orders(x, "pass; engage 1; smash 2"), 3);
        C.due("box 2", x.undo() * 10 + x.box(2, 0), 20);
        C.due("folk 1", x.undo() * 10 + x.at(1, 2), 10);
        C.due("the night", x.undo() * 10 + x.count(15), 30);
        for (int i = 0; i < 16; i++) {
            x.pass();
        }
        C.due("sixteen", x.count(7), 16);
        x.smash(3);
        C.due("sixteen still", x.count(7), 16);
        C.due("the latest first", x.undo(), 2);
        for (int i = 0; i < 15; i++) {
            C.due("then the nights", x.undo(), 3);
        }
        C.due("one was too long ago", x.undo() + x.count(15), -2);
        C.due("seventeen by orders", Check.orders(x, "engage 0 times 17"), 17);
        for (int i = 0; i < 16; i++) {
            C.due("engaged", x.undo(), 1);
        }
        C.due("one too long ago", x.undo() * 10 + x.at(0, 2), -29);
        undoOfRefused();
        undoAcross();
    }

    private static void undoOfRefused() {
        say.promise(23, "-3 there is none (nothing that was ahead of a cloud(), folk(), terms() that was not REFUSED can be undone).");
        CloudCalls x = village();
        refusedBy(x, "none", x.undo(), -3);
        for (int i = 0; i < 6; i++) {
            x.smash(4);
            boolean refused = i % 2 == 0;
            int answer = i / 2 == 0 ? x.cloud(refused ? 9 : 0, 0, 0) : i / 2 == 1 ? x.folk(0, refused ? 99 : 0) : x.terms(refused ? 9 : 2, 5);
            C.due("refused or not", answer < 0 ? 1 : 0, refused ? 1 : 0);
            C.due("what can be undone", x.count(7), refused ? 1 : 0);
            C.due("undo", x.undo(), refused ? 2 : -3);
        }
        x = village();
        for (int i = 0; i < 4; i++) {
            x.cloud(0, 0, 0);
        }
        for (int i = 0; i < 3; i++) {
            x.folk(0, 0);
        }
        x.smash(1);
        x.cloud(0, 0, 0);
        x.folk(0, 0);
        C.due("refused for want of room", x.count(7), 1);
        x.terms(2, 0);
        C.due("a term as it was is a term", x.count(7), 0);
        refusedBy(x, "undo", x.undo(), -3);
        C.due("smashed all the same", x.count(2), 2);
        x.smash(0);
        C.due("what is behind it can be", x.undo() * 10 + x.count(7), 20);
    }

    private static void undoAcross() {
        CloudCalls x = village();
        x.ring(0, 0);
        x.road(0, 2, 1);
        x.heard(0, 1);
        under(x, "tells 1; goes 2");
        Check.feed(x, new byte[] {3, 4, 1});
        x.row();
        x.forget();
        x.image(0);
        x.seasons(1, 5);
        Check.orders(x, "pass; smash 6");
        Check.orders(x, "x");
        C.due("no other call takes away what can be undone", x.count(7), 1);
        x.pass();
        x.road(0, 2, 0);
        x.force(-1);
        C.due("a night", x.undo(), 3);
        C.due("they are where they were, whatever is law now", x.of(0, 2) * 10 + x.of(1, 2), 1);
        C.due("a ring", x.undo(), 0);
        C.due("as it was", x.at(0, 4), 0);
        CloudCalls y = under(village(), "tells 9");
        for (int i = 0; i < 112; i++) {
            y.ring(0, 0);
        }
        C.due("cut off", y.undo() * 1000 + y.at(0, 4), 999);
        C.due("then less", y.undo() * 1000 + y.at(0, 4), 990);
    }

    private static void whereAndFirst() {
        say.promise(24, "`int where(int cloud, int n)`: WHERE n NIGHTS 0 .. 60 on.");
        CloudCalls x = circle();
        x.cloud(0, 1, 5);
        x.cloud(1, 1, 3);
        C.due("now", x.where(0, 0), 5);
        C.due("0 behind 5", x.where(0, 1), 0);
        C.due("60", x.where(1, 60), 3);
        C.due("59", x.where(1, 59), 2);
        say.promise(24, "NONE.");
        C.due("61", x.where(0, 61), -1);
        C.due("-1", x.where(0, -1), -1);
        C.due("cloud 2", x.where(2, 0), -1);
        C.due("cloud -1", x.where(-1, 0), -1);
        for (int far : FAR) {
            C.due("cloud " + far, x.where(far, 0), -1);
            C.due("n " + far, x.where(0, far), -1);
        }
        say.promise(25, "`int first(int box, int what)`: FIRST in a BOX: in how many NIGHTS (what 0), which CLOUD, the lowest (1).");
        int[] nights = {1, 2, 3, 0, 1, 0};
        int[] who = {0, 0, 0, 1, 1, 0};
        for (int b = 0; b < 6; b++) {
            C.due("first(" + b + ", 0)", x.first(b, 0), nights[b]);
            C.due("first(" + b + ", 1)", x.first(b, 1), who[b]);
        }
        x.cloud(2, 1, 3);
        C.due("the lowest of two", x.first(3, 1) * 10 + x.first(4, 1), 11);
        CloudCalls y = circle();
        y.cloud(0, 1, 0);
        y.cloud(0, 1, 0);
        under(y, "goes box; goes 1 if cloud=1 and night=59; goes 1 if night=60");
        C.due("in 60", y.first(1, 0), 60);
        C.due("by 1", y.first(1, 1), 1);
        under(y, "goes box; goes 1 if night=60");
        say.promise(25, "NONE (not in 60).");
        C.due("in 61", y.first(1, 0), -1);
        C.due("in 61", y.first(1, 1), -1);
        C.due("what 2", x.first(3, 2), -1);
        C.due("what -1", x.first(3, -1), -1);
        C.due("box 6", x.first(6, 0), -1);
        C.due("box -1", x.first(-1, 1), -1);
        C.due("no clouds", new CloudCalls().first(0, 0), -1);
        for (int far : FAR) {
            C.due("box " + far, x.first(far, 0), -1);
            C.due("what " + far, x.first(3, far), -1);
        }
    }

    private static void meetingAndAgain() {
        say.promise(26, "`int meeting(int one, int other)`: MEETING.");
        CloudCalls x = circle();
        x.cloud(0, 1, 0);
        x.cloud(1, 1, 3);
        x.cloud(2, 1, 3);
        under(x, "goes box if kind>0");
        C.due("in 3", x.meeting(0, 1), 3);
        C.due("the other first", x.meeting(1, 0), 3);
        C.due("now", x.meeting(2, 1), 0);
        say.promise(26, "NONE (one alone; not in 60).");
        C.due("one alone", x.meeting(1, 1), -1);
        x.force(-1);
        C.due("never", x.meeting(0, 1), -1);
        under(x, "goes box; goes 2 if cloud=1 and night=59");
        x.road(2, 0, 1);
        C.due("not yet in 60", x.meeting(0, 1), -1);
        under(x, "goes box; goes 2 if cloud=1 and night=58; goes 0 if cloud=1 and night=59");
        C.due("in 60", x.meeting(0, 1), 60);
        under(x, "goes box; goes 2 if cloud=1 and night=59; goes 0 if cloud=1 and night=60");
        C.due("in 61", x.meeting(0, 1), -1);
        C.due("no such", x.meeting(0, 3), -1);
        C.due("no such", x.meeting(3, 0), -1);
        C.due("no such", x.meeting(3, 3), -1);
        C.due("no such", x.meeting(-1, 0), -1);
        for (int far : FAR) {
            C.due("one " + far, x.meeting(far, 0), -1);
            C.due("other " + far, x.meeting(0, far), -1);
        }
        say.promise(27, "`int again()`: AGAIN.");
        CloudCalls y = new CloudCalls();
        C.due("without clouds", y.again(), 1);
        y.cloud(0, 1, 0);
        C.due("it stays", y.again(), 1);
        y = circle();
        y.cloud(0, 1, 4);
        C.due("round", y.again(), 6);
        C.due("on paper", y.of(0, 2), 4);
        under(y, "goes box; goes 5 if night=0; goes 4 if night=59");
        C.due("in 60", y.again(), 60);
        say.promise(27, "NONE (not in 60).");
        under(y, "goes box; goes 5 if night=0; goes 4 if night=60");
        C.due("in 61", y.again(), -1);
        CloudCalls z = new CloudCalls();
        z.cloud(0, 1, 0);
        z.road(0, 1, 1);
        C.due("never", z.again(), -1);
    }

    private static void answered() {
        say.promise(28, "`int answered(int what)`: ANSWERED: how much (what 0), by whom CLOUD c is (1 + c; 5: nobody).");
        CloudCalls x = village();
        C.due("how much", x.answered(0), 8);
        C.due("by whom", x.answered(1) * 10 + x.answered(2), 1);
        x.engage(1);
        C.due("how much", x.answered(0), 5);
        C.due("by whom", x.answered(1) * 10 + x.answered(2), 50);
        x.engage(0);
        C.due("all engaged", x.answered(0), 0);
        C.due("nobody", x.answered(1) * 10 + x.answered(2), 55);
        C.due("on paper", x.count(3), 0);
        say.promise(28, "NONE.");
        C.due("no cloud 2", x.answered(3), -1);
        C.due("what 7", x.answered(7), -1);
        C.due("what -1", x.answered(-1), -1);
        for (int far : FAR) {
            C.due("what " + far, x.answered(far), -1);
        }
        CloudCalls y = new CloudCalls();
        C.due("nothing", y.answered(0), 0);
        C.due("no cloud 0", y.answered(1), -1);
        for (int c = 0; c < 6; c++) {
            y.cloud(0, 1, 0);
        }
        C.due("cloud 5 by nobody", y.answered(6), 5);
        C.due("no cloud 6", y.answered(7), -1);
    }

    private static void heardAndForget() {
        say.promise(29, "`int heard(int folk, int told)`: HEARD: how often there was.");
        CloudCalls x = village();
        for (int i = 1; i <= 6; i++) {
            C.due("how often", x.heard(i % 2, i == 6 ? 0 : 9), i);
        }
        say.promise(29, "-1; -2; -5.");
        refusedBy(x, "no room", x.heard(0, 0), -5);
        refusedBy(x, "-2 ahead of it", x.heard(2, 0), -2);
        refusedBy(x, "-1 ahead of both", x.heard(2, 10), -1);
        C.due("six", x.count(5), 6);
        CloudCalls y = village();
        refusedBy(y, "told -1", y.heard(0, -1), -1);
        refusedBy(y, "told 10", y.heard(0, 10), -1);
        refusedBy(y, "folk 2", y.heard(2, 0), -2);
        refusedBy(y, "folk -1", y.heard(-1, 0), -2);
        for (int far : FAR) {
            refusedBy(y, "folk " + far, y.heard(far, 0), -2);
            refusedBy(y, "told " + far, y.heard(0, far), -1);
            refusedBy(y, "both " + far, y.heard(far, far), -1);
        }
        C.due("nothing", y.count(5), 0);
        say.promise(30, "`int forget()`: HEARD is nothing then: how often there was.");
        C.due("six", x.forget(), 6);
        C.due("nothing", x.count(5), 0);
        C.due("all can be", x.canBe(), 3);
        C.due("nothing", x.forget(), 0);
        C.due("there is room", x.heard(0, 5), 1);
        C.due("of this alone", x.canBe(), 2);
        C.due("one", x.forget(), 1);
        x.ring(9, 9);
        x.forget();
        C.due("it leaves status", x.status(), -2);
    }

    private static void canBeAndAsk() {
        say.promise(31, "`int canBe()`: IT CAN BE, as bits.");
        CloudCalls x = new CloudCalls();
        C.due("no clouds", x.canBe(), 0);
        for (int c = 0; c < 6; c++) {
            x.cloud(c % 5, c, c);
        }
        C.due("all", x.canBe(), 63);
        x.folk(0, 1);
        x.heard(0, 5);
        C.due("cloud 5, of kind 0", x.canBe(), 32);
        x.forget();
        x.heard(0, 0);
        C.due("all who tell her nothing", x.canBe(), 31);
        x.heard(0, 1);
        C.due("none", x.canBe(), 0);
        say.promise(32, "`int ask(int what)`: To ASK: the FOLK (what 0), how many CLOUDS are left at most (1).");
        C.due("none can be", x.ask(0), -1);
        x.forget();
        C.due("her", x.ask(0), 0);
        C.due("five at most", x.ask(1), 5);
        x.folk(0, 31);
        C.due("another one tells all apart", x.ask(0) * 10 + x.ask(1), 11);
        x.engage(1);
        C.due("engaged or not", x.ask(0), 1);
        x.folk(0, 31);
        C.due("the lowest", x.ask(0), 1);
        x.heard(0, 5);
        C.due("one cloud: anybody", x.ask(0) * 10 + x.ask(1), 1);
        say.promise(32, "NONE (none, nobody).");
        x.heard(0, 4);
        C.due("none: whom", x.ask(0), -1);
        C.due("none: how many", x.ask(1), -1);
        CloudCalls y = new CloudCalls();
        y.cloud(0, 1, 0);
        C.due("nobody: whom", y.ask(0), -1);
        C.due("nobody: how many", y.ask(1), -1);
        y.folk(0, 0);
        C.due("what 2", y.ask(2), -1);
        C.due("what -1", y.ask(-1), -1);
        for (int far : FAR) {
            C.due("what " + far, y.ask(far), -1);
        }
    }

    private static void wayAndPart() {
        say.promise(33, "`int way(int from, int to, int i)`: A WAY: how LONG (i NONE), the i-th BOX it comes to.");
        CloudCalls x = new CloudCalls();
        for (int b = 0; b < 5; b++) {
            x.road(b, b + 1, 9);
        }
        C.due("the longest", x.way(0, 5, -1), 45);
        for (int i = 0; i < 5; i++) {
            C.due("the " + i + "th", x.way(0, 5, i), i + 1);
            C.due("the " + i + "th back", x.way(5, 0, i), 4 - i);
        }
        C.due("to itself", x.way(2, 2, -1), 0);
        x.smash(2);
        x.smash(5);
        C.due("smashed aside", x.way(0, 5, -1) * 10 + x.way(0, 5, 1), 452);
        say.promise(33, "NONE (there is none).");
        C.due("behind the last", x.way(0, 5, 5), -1);
        C.due("to itself it comes to none", x.way(2, 2, 0), -1);
        x.road(2, 3, 0);
        C.due("no way", x.way(0, 5, -1), -1);
        C.due("no way", x.way(0, 5, 0), -1);
        C.due("up to the gap", x.way(0, 2, -1), 18);
        C.due("i -2", x.way(0, 2, -2), -1);
        C.due("box 6", x.way(0, 6, -1), -1);
        C.due("box -1", x.way(-1, 0, -1), -1);
        for (int far : FAR) {
            C.due("from " + far, x.way(far, 0, -1), -1);
            C.due("to " + far, x.way(0, far, -1), -1);
            C.due("i " + far, x.way(0, 2, far), -1);
        }
        say.promise(34, "`int part(int one, int other, int what)`: To PART two: how many (what 0), which, as bits (1).");
        x = circle();
        C.due("two", x.part(0, 2, 0), 2);
        C.due("1 and 3", x.part(0, 2, 1), 10);
        C.due("the other way round", x.part(2, 0, 1), 10);
        x.smash(1);
        C.due("one", x.part(0, 2, 0) * 100 + x.part(0, 2, 1), 108);
        x.smash(3);
        C.due("none: they are not joined", x.part(0, 2, 0), 0);
        C.due("none: no bits", x.part(0, 2, 1), 0);
        C.due("one is smashed", x.part(0, 1, 0) + x.part(0, 1, 1), 0);
        C.due("nothing is smashed by it", x.count(2), 10);
        say.promise(34, "NONE (it can't be; one alone).");
        C.due("neighbours", x.part(4, 5, 0), -1);
        C.due("neighbours", x.part(4, 5, 1), -1);
        for (int b = 0; b < 6; b++) {
            C.due("one alone", x.part(b, b, 0), -1);
            C.due("one alone", x.part(b, b, 1), -1);
        }
        C.due("what 2", x.part(0, 2, 2), -1);
        C.due("what -1", x.part(0, 2, -1), -1);
        C.due("box 6", x.part(0, 6, 0), -1);
        C.due("box -1", x.part(-1, 2, 0), -1);
        for (int far : FAR) {
            C.due("one " + far, x.part(far, 0, 0), -1);
            C.due("other " + far, x.part(0, far, 0), -1);
            C.due("what " + far, x.part(0, 2, far), -1);
        }
    }

    private static void leaveNeededFair() {
        say.promise(35, "`int leave(int what)`: To LEAVE: how many (what 0), which, as bits (1).");
        CloudCalls x = circle();
        C.due("nobody: none", x.leave(0) + x.leave(1), 0);
        x.folk(5, 0);
        C.due("one", x.leave(0) * 100 + x.leave(1), 132);
        x.folk(2, 0);
        C.due("four, the lowest", x.leave(0) * 100 + x.leave(1), 400 + 1 + 2 + 4 + 32);
        for (int b = 0; b < 3; b++) {
            x.folk(b * 2, 0);
        }
        C.due("by four boxes", x.leave(0) * 100 + x.leave(1), 500 + 1 + 4 + 16 + 32 + 2);
        say.promise(35, "NONE (it can't be).");
        x.smash(1);
        C.due("over 3 now", x.leave(1), 61);
        x.smash(3);
        C.due("parted", x.leave(0), -1);
        C.due("parted", x.leave(1), -1);
        x.smash(3);
        x.smash(5);
        C.due("hers is smashed", x.leave(0), -1);
        CloudCalls y = new CloudCalls();
        y.folk(0, 0);
        y.smash(0);
        C.due("the only one is smashed", y.leave(0), -1);
        C.due("what 2", new CloudCalls().leave(2), -1);
        C.due("what -1", new CloudCalls().leave(-1), -1);
        for (int far : FAR) {
            C.due("what " + far, new CloudCalls().leave(far), -1);
        }
        say.promise(36, "`int needed()`: NEEDED, as bits.");
        C.due("none", new CloudCalls().needed(), 0);
        CloudCalls z = new CloudCalls();
        for (int b = 0; b < 5; b++) {
            z.road(5, b, 1);
        }
        C.due("the middle", z.needed(), 32);
        z.smash(5);
        C.due("not a smashed one", z.needed(), 0);
        z.smash(5);
        for (int b = 1; b < 5; b++) {
            z.smash(b);
        }
        C.due("two alone need none", z.needed(), 0);
        z.smash(4);
        C.due("two others", z.needed(), 32);
        say.promise(37, "`int fair(int folk)`: FAIR: what one of the FOLK has.");
        x = village();
        C.due("3 to 0", x.fair(0), 3);
        C.due("5 to 1", x.fair(1), 5);
        x.engage(0);
        x.ring(1, 1);
        C.due("what is known or engaged does not matter", x.fair(0) * 10 + x.fair(1), 35);
        say.promise(37, "NONE.");
        C.due("folk 2", x.fair(2), -1);
        C.due("folk -1", x.fair(-1), -1);
        for (int far : FAR) {
            C.due("folk " + far, x.fair(far), -1);
        }
        C.due("nobody", new CloudCalls().fair(0), -1);
    }

    private static void fewAndCompare() {
        say.promise(38, "`long few(int k, int n)`: FEW, k 1 .. 20, n 0 .. 99.");
        long whole = 1000000000000L;
        CloudCalls x = new CloudCalls();
        C.due("of none", x.few(1, 0), whole);
        C.due("none of one", x.few(1, 1), whole / 10 * 9);
        C.due("none of two", x.few(1, 2), whole / 100 * 81);
        C.due("one of two", x.few(2, 2), whole / 100 * 99);
        C.due("all of two", x.few(3, 2), whole);
        C.due("fewer than 20 of 12", x.few(20, 12), whole);
        C.holds("of 99", x.few(20, 99) > whole / 1000 * 998 && x.few(20, 99) < whole);
        C.holds("of 99", x.few(1, 99) > 29000000 && x.few(1, 99) < 29600000);
        x.terms(1, 10);
        C.due("all fade", x.few(20, 99), 0);
        C.due("19 fade", x.few(20, 19), whole);
        C.due("20 fade", x.few(20, 20), 0);
        x.terms(1, 0);
        C.due("none fades", x.few(1, 99), whole);
        say.promise(38, "NONE.");
        C.due("k 0", x.few(0, 5), -1);
        C.due("k 21", x.few(21, 5), -1);
        C.due("k -1", x.few(-1, 5), -1);
        C.due("n -1", x.few(1, -1), -1);
        C.due("n 100", x.few(1, 100), -1);
        for (int far : FAR) {
            C.due("k " + far, x.few(far, 5), -1);
            C.due("n " + far, x.few(1, far), -1);
        }
        say.promise(39, "`int compare(int law)`: COMPARED.");
        x = village();
        Check.law(x, "tells 9");
        C.due("none", x.compare(-1), 8);
        C.due("law 0", x.compare(0), 18);
        C.due("it is not in force", x.count(14) * 10 + x.answered(0), -2);
        x.force(0);
        C.due("none", x.compare(-1), 8);
        C.due("in force still", x.count(14) * 10 + x.answered(0), 18);
        say.promise(39, "NONE (no such LAW).");
        C.due("law 1", x.compare(1), -1);
        C.due("law 6", x.compare(6), -1);
        for (int far : FAR) {
            C.due("law " + far, x.compare(far), -1);
        }
        C.due("it is no refusal", x.status() + x.count(10), 0);
    }

    private static void seasonsAndDrawn() {
        say.promise(40, "`int seasons(int seed, int n)`: SEASONS, kept as the latest: how often a CLOUD RANG in them.");
        CloudCalls x = new CloudCalls();
        x.cloud(0, 3, 0);
        x.folk(0, 1);
        // With one cloud and one of the folk only every third draw matters; here no box is smashed in the first.
        long s = 0;
        int[] rang = new int[61];
        boolean smashed = false;
        for (int n = 1; n <= 60; n++) {
            for (int d = 0; d < 3; d++) {
                s = (s * 1103 + 12345) % 1000003;
            }
            rang[n] = rang[n - 1] + (s % 4 < 2 && !smashed ? 1 : 0);
            smashed ^= s % 4 == 3;
        }
        for (int n = 1; n <= 60; n++) {
            C.due("seasons(0, " + n + ")", x.seasons(0, n), rang[n]);
        }
        int most = x.drawn(0, 1) + x.drawn(0, 2);
        C.due("each ring told or soaked 3", most, 3 * rang[60]);
        x.seasons(0, 1);
        C.due("kept as the latest", x.drawn(0, 1) + x.drawn(0, 2), 3 * rang[1]);
        say.promise(40, "-1; -3 there are no CLOUDS, no FOLK.");
        refusedBy(x, "seed -1", x.seasons(-1, 1), -1);
        refusedBy(x, "seed 1,000,001", x.seasons(1000001, 1), -1);
        refusedBy(x, "n 0", x.seasons(0, 0), -1);
        refusedBy(x, "n 61", x.seasons(0, 61), -1);
        for (int far : FAR) {
            refusedBy(x, "seed " + far, x.seasons(far, 1), -1);
            refusedBy(x, "n " + far, x.seasons(0, far), -1);
        }
        C.due("refused ones are not kept", x.drawn(0, 1) + x.drawn(0, 2), 3 * rang[1]);
        CloudCalls y = new CloudCalls();
        refusedBy(y, "neither", y.seasons(0, 1), -3);
        refusedBy(y, "-1 ahead of it", y.seasons(0, 61), -1);
        y.cloud(0, 1, 0);
        refusedBy(y, "no folk", y.seasons(0, 1), -3);
        CloudCalls z = new CloudCalls();
        z.folk(0, 1);
        refusedBy(z, "no clouds", z.seasons(0, 1), -3);
        C.due("nothing is kept", z.drawn(0, 1), -1);
        say.promise(41, "`int drawn(int k, int what)`: Behind the latest SEASONS the BOX of CLOUD k (what 0), WET (1), KNOWING (2) of FOLK k.");
        x = circle();
        x.cloud(0, 3, 0);
        x.cloud(0, 3, 4);
        x.folk(0, 1);
        x.ring(0, 0);
        x.engage(0);
        x.ring(0, 0);
        x.seasons(2, 60);
        C.due("round ten times", x.drawn(0, 0) * 10 + x.drawn(1, 0), 4);
        C.holds("wet and knowing, as it was and more", x.drawn(0, 1) >= 3 && x.drawn(0, 2) >= 3);
        x.seasons(2, 1);
        C.due("of the latest", x.drawn(0, 0) * 10 + x.drawn(1, 0), 15);
        say.promise(41, "NONE.");
        x.cloud(0, 3, 0);
        x.folk(0, 1);
        C.due("a cloud that was not there then", x.drawn(2, 0), -1);
        C.due("one who was not there then", x.drawn(1, 1), -1);
        C.due("one who was not there then", x.drawn(1, 2), -1);
        C.due("what 3", x.drawn(0, 3), -1);
        C.due("what -1", x.drawn(0, -1), -1);
        for (int what = 0; what < 3; what++) {
            C.due("k -1", x.drawn(-1, what), -1);
            C.due("k 6", x.drawn(6, what), -1);
            C.due("ahead of any", new CloudCalls().drawn(0, what), -1);
        }
        for (int far : FAR) {
            C.due("k " + far, x.drawn(far, 0), -1);
            C.due("what " + far, x.drawn(0, far), -1);
        }
    }

    private static void imageAndBack() {
        say.promise(42, "`int image(int k)`: IMAGE k is kept: 0; -1.");
        CloudCalls x = new CloudCalls();
        refusedBy(x, "2", x.image(2), -1);
        refusedBy(x, "-1", x.image(-1), -1);
        for (int far : FAR) {
            refusedBy(x, "" + far, x.image(far), -1);
        }
        C.due("1", x.image(1), 0);
        x.cloud(0, 0, 0);
        C.due("0", x.image(0), 0);
        x.cloud(0, 0, 0);
        x.smash(0);
        C.due("0 anew", x.image(0), 0);
        C.due("what can be undone stays", x.count(7), 1);
        say.promise(43, "`int back(int k)`: BACK to IMAGE k: 0.");
        C.due("1", x.back(1), 0);
        C.due("none", x.count(0) * 100 + x.count(2) * 10 + x.count(7), 0);
        C.due("0", x.back(0), 0);
        C.due("as it was kept anew", x.count(0) * 100 + x.count(2) * 10 + x.count(7), 210);
        C.due("1 stays", x.back(1) + x.count(0), 0);
        x.folk(0, 0);
        C.due("an image is not what is done later", x.back(1) + x.count(1), 0);
        say.promise(43, "-1; -2 it was not kept.");
        refusedBy(x, "2", x.back(2), -1);
        refusedBy(x, "-1", x.back(-1), -1);
        for (int far : FAR) {
            refusedBy(x, "" + far, x.back(far), -1);
        }
        CloudCalls y = new CloudCalls();
        refusedBy(y, "0", y.back(0), -2);
        y.smash(0);
        y.image(1);
        refusedBy(y, "0", y.back(0), -2);
        C.due("a refused one changes nothing", y.count(2) * 10 + y.count(7), 11);
    }

    private static void count() {
        say.promise(44, "`int count(int what)`: 0 CLOUDS, 1 FOLK, 2 SMASHED BOXES, as bits, 3 all KNOWING, 4 all WET, 5 HEARD, 6 LAWS, 7 how many can be undone, 8 bytes of the TAPE,");
        CloudCalls x = village();
        x.folk(0, 31);
        Check.law(x, "bars");
        Check.law(x, "tells 1");
        Check.law(x, "tells 2");
        Check.law(x, "tells 3");
        x.ring(0, 0);
        x.ring(1, 1);
        x.engage(2);
        x.ring(0, 2);
        x.ring(1, 2);
        x.smash(5);
        x.smash(3);
        for (int i = 0; i < 5; i++) {
            x.heard(0, i);
        }
        x.feed(0, 0, 0, 0, 0);
        x.end(13);
        int[] counts = {2, 3, 40, 8, 8, 5, 4, 7, 13};
        for (int what = 0; what < counts.length; what++) {
            C.due("count(" + what + ")", x.count(what), counts[what]);
        }
        say.promise(44, "9 .. 13 how many calls were REFUSED by -1, -2, -3, -5, -6 (IMAGES do not keep that),");
        x = village();
        x.image(0);
        int[] times = {5, 4, 3, 2, 1};
        for (int i = 0; i < 5; i++) {
            x.smash(6);
        }
        for (int i = 0; i < 4; i++) {
            x.engage(9);
        }
        for (int i = 0; i < 3; i++) {
            x.undo();
        }
        for (int i = 0; i < 5; i++) {
            x.folk(0, 0);
        }
        x.row();
        for (int i = 0; i < 5; i++) {
            C.due("count(" + (9 + i) + ")", x.count(9 + i), times[i]);
        }
        x.of(9, 9);
        x.at(9, 9);
        x.asks(9, 9, 9);
        x.box(9, 9);
        x.end(9);
        x.where(9, 9);
        x.first(9, 9);
        x.meeting(9, 9);
        x.answered(9);
        x.ask(9);
        x.way(9, 9, 9);
        x.part(9, 9, 9);
        x.leave(9);
        x.fair(9);
        x.few(99, 99);
        x.compare(9);
        x.drawn(9, 9);
        x.count(99);
        x.back(0);
        for (int i = 0; i < 5; i++) {
            C.due("NONE is no refusal, images do not keep it: " + (9 + i), x.count(9 + i), times[i]);
        }
        say.promise(44, "14 the LAW in FORCE, 15 .. 17 TERMS 0 .. 2.");
        C.due("no law", x.count(14), -1);
        Check.law(x, "bars");
        Check.law(x, "bars");
        x.force(1);
        C.due("law 1", x.count(14), 1);
        x.force(0);
        C.due("law 0", x.count(14), 0);
        x.terms(0, 999);
        x.terms(1, 8);
        x.terms(2, 7);
        C.due("terms", x.count(15) * 100 + x.count(16) * 10 + x.count(17), 99987);
        say.promise(44, "NONE for others.");
        C.due("18", x.count(18), -1);
        C.due("-1", x.count(-1), -1);
        for (int far : FAR) {
            C.due("" + far, x.count(far), -1);
        }
    }

    private static void status() {
        say.promise(45, "`int status()`: What the latest call of cloud, folk, road, terms, row, law, orders, force, ring, engage, smash, pass, undo, heard, seasons, image, back was REFUSED by;");
        int[] why = {-1, -1, -1, -1, -6, -6, -6, -2, -2, -2, -1, -3, -3, -1, -1, -1, -1};
        for (int call = 0; call < why.length; call++) {
            CloudCalls x = village();
            x.terms(0, 999);
            C.due("call " + call, refusedCall(x, call), why[call]);
            C.due("status behind call " + call, x.status(), why[call]);
            look(x);
            C.due("other calls leave it", x.status(), why[call]);
            C.due("asked twice", x.status(), why[call]);
        }
        say.promise(45, "0 if it was not, or ahead of any.");
        C.due("ahead of any", new CloudCalls().status(), 0);
        for (int call = 0; call < why.length; call++) {
            CloudCalls x = village();
            x.image(0);
            x.ring(0, 0);
            x.smash(-1);
            C.holds("call " + call + " is not refused", grantedCall(x, call) >= -1);
            C.due("status behind call " + call, x.status(), 0);
        }
    }

    private static int refusedCall(CloudCalls x, int call) {
        switch (call) {
            case 0: return x.cloud(5, 0, 0);
            case 1: return x.folk(6, 0);
            case 2: return x.road(0, 0, 0);
            case 3: return x.terms(3, 0);
            case 4: return x.row();
            case 5: return x.law();
            case 6: return x.orders();
            case 7: return x.force(0);
            case 8: return x.ring(2, 0);
            case 9: return x.engage(2);
            case 10: return x.smash(6);
            case 11: return x.pass();
            case 12: return x.undo();
            case 13: return x.heard(0, 10);
            case 14: return x.seasons(0, 0);
            case 15: return x.image(2);
            default: return x.back(2);
        }
    }

    private static int grantedCall(CloudCalls x, int call) {
        switch (call) {
            case 0: return x.cloud(0, 0, 0);
            case 1: return x.folk(0, 0);
            case 2: return x.road(0, 1, 0);
            case 3: return x.terms(2, 0);
            case 4:
                Check.feed(x, new byte[] {9});
                return x.row();
            case 5: return Check.law(x, "bars");
            case 6: return Check.orders(x, "pass");
            case 7: return x.force(-1);
            case 8: return x.ring(0, 0);
            case 9: return x.engage(0);
            case 10: return x.smash(0);
            case 11: return x.pass();
            case 12: return x.undo();
            case 13: return x.heard(0, 0);
            case 14: return x.seasons(0, 1);
            case 15: return x.image(1);
            default: return x.back(0);
        }
    }

    /** Every call that status does not speak of, with good and with wrong numbers. */
    private static void look(CloudCalls x) {
        for (int n = 0; n < 10; n += 9) {
            x.of(n, n);
            x.at(n, n);
            x.asks(n, n, n);
            x.box(n, n);
            x.feed(n, n, n, n, n);
            x.end(n);
            x.wrong();
            x.fault();
            x.stopped();
            x.where(n, n);
            x.first(n, n);
            x.meeting(n, n + 1);
            x.again();
            x.answered(n);
            x.forget();
            x.canBe();
            x.ask(n);
            x.way(n, n + 1, n);
            x.part(n, n + 1, n);
            x.leave(n);
            x.needed();
            x.fair(n);
            x.few(n + 1, n);
            x.compare(n);
            x.drawn(n, n);
            x.count(n);
        }
        x.end(0);
    }

    /** All that can be asked, as one number for each question. */
    private static int[] picture(CloudCalls x) {
        int[] all = new int[200];
        int n = 0;
        for (int what = 0; what < 18; what++) {
            if (what < 9 || what > 13) {
                all[n++] = x.count(what);
            }
        }
        for (int i = 0; i < 6; i++) {
            for (int what = 0; what < 8; what++) {
                all[n++] = x.box(i, what);
                all[n++] = what < 4 ? x.of(i, what) : 0;
                all[n++] = what < 5 ? x.at(i, what) : 0;
            }
            all[n++] = x.drawn(i, 0);
            all[n++] = x.drawn(i, 1);
        }
        all[n++] = x.canBe();
        all[n++] = x.wrong();
        return all;
    }

    private static void refusedCallsChangeNothing() {
        C.part("what is refused changes nothing but what is counted");
        for (int call = 0; call < 17; call++) {
            CloudCalls x = village();
            x.terms(0, 999);
            x.seasons(1, 1);
            x.heard(0, 3);
            x.terms(0, 5);
            x.terms(0, 999);
            if (call != 12) {
                x.smash(5);
                x.ring(0, 0);
            }
            int[] ahead = picture(x);
            C.holds("call " + call + " is refused", refusedCall(x, call) < 0);
            int[] behind = picture(x);
            boolean same = true;
            for (int i = 0; i < ahead.length; i++) {
                same = same && ahead[i] == behind[i];
            }
            C.holds("call " + call + " changed nothing", same);
        }
    }
}
