import java.util.ArrayList;
import java.util.Arrays;
import java.util.List;
import java.util.Random;

/** Runs of drawn calls, each answer compared with the model's. */
final class ModelTest {
    private static final int RUNS = 1500;
    private static final int CALLS = 512;

    private final Random random;
    private final CloudCalls x = new CloudCalls();
    private final Model m = new Model();
    private final List<String> run = new ArrayList<>();
    private int wrong = 0;
    private static long answers = 0;

    private ModelTest(long seed) {
        random = new Random(seed);
    }

    public static void main(String[] args) {
        int runs = args.length > 0 ? Integer.parseInt(args[0]) : RUNS;
        long from = args.length > 1 ? Long.parseLong(args[1]) : 0;
        int bad = 0;
        for (long seed = from; seed < from + runs && bad < 3; seed++) {
            ModelTest t = new ModelTest(seed);
            t.go();
            if (t.wrong > 0) {
                bad++;
                System.out.println("seed " + seed);
                t.run.subList(Math.max(0, t.run.size() - 30), t.run.size()).forEach(System.out::println);
            }
        }
        System.out.println("ModelTest: " + answers + " answers in " + runs + " runs, " + bad + " runs not as the model's");
        if (bad > 0) {
            System.exit(1);
        }
    }

    private int upTo(int most) {
        return random.nextInt(most + 1);
    }

    /** Mostly a number 0 .. most, now and then one beside it or far from it. */
    private int near(int most) {
        int r = random.nextInt(60);
        if (r == 0) {
            return -1;
        }
        if (r == 1) {
            return most + 1;
        }
        if (r == 2) {
            return new int[] {Integer.MIN_VALUE, Integer.MAX_VALUE, -2, 1000000, most + 2}[upTo(4)];
        }
        return upTo(most);
    }

    private void go() {
        if (random.nextInt(4) > 0) {
            lay();
        }
        for (int i = 0; i < CALLS && wrong == 0; i++) {
            step();
        }
    }

    private void lay() {
        for (int i = upTo(6); i > 0; i--) {
            call("cloud", upTo(4), upTo(9), upTo(5));
        }
        for (int i = upTo(5); i > 0; i--) {
            call("folk", upTo(5), upTo(31));
        }
        for (int i = upTo(12); i > 0; i--) {
            call("road", upTo(5), upTo(5), upTo(9));
        }
        if (random.nextInt(8) == 0) {
            call("terms", 0, 990 + upTo(9));
        }
    }

    private static final String[] NAMES = ("cloud of folk at asks asks road road box terms text text text text row end wrong law orders fault stopped force force "
        + "ring ring ring ring ring engage engage smash smash pass pass undo undo where first meeting again answered answered answered heard heard "
        + "forget canBe canBe ask ask way way part part leave needed fair few compare seasons drawn drawn image back count count status feed many").split(" ");

    private void step() {
        String name = NAMES[random.nextInt(NAMES.length)];
        switch (name) {
            case "cloud":
                if (random.nextInt(4) == 0) {
                    call(name, near(4), near(9), near(5));
                }
                break;
            case "folk":
                if (random.nextInt(4) == 0) {
                    call(name, near(5), near(31));
                }
                break;
            case "terms": {
                int what = near(2);
                int[] tops = {999, 10, 9};
                if (random.nextInt(4) == 0) {
                    call(name, what, what < 0 || what > 2 ? upTo(9) : random.nextInt(5) == 0 ? near(tops[what]) : near(Math.min(tops[what], 20)));
                }
                break;
            }
            case "text":
                text();
                break;
            case "many":
                for (int i = upTo(20); i > 0; i--) {
                    call("ring", near(Math.max(0, m.s.clouds.size() - 1)), near(Math.max(0, m.s.folk.size() - 1)));
                }
                break;
            case "feed":
                if (random.nextInt(3) == 0) {
                    rowBytes();
                }
                break;
            default:
                plain(name);
                break;
        }
    }

    private void plain(String name) {
        switch (name) {
            case "of": call(name, near(5), near(3)); break;
            case "at": call(name, near(4), near(4)); break;
            case "asks": call(name, near(5), near(4), near(2)); break;
            case "road": call(name, near(5), near(5), near(9)); break;
            case "box": call(name, near(5), near(7)); break;
            case "end": call(name, random.nextInt(3) == 0 ? near(400) : near(m.tape.size())); break;
            case "force": call(name, random.nextInt(4) == 0 ? near(5) : upTo(m.s.laws.size()) - 1); break;
            case "ring": call(name, near(Math.max(0, m.s.clouds.size() - 1)), near(Math.max(0, m.s.folk.size() - 1))); break;
            case "engage": call(name, near(4)); break;
            case "smash": call(name, near(5)); break;
            case "where": call(name, near(5), near(60)); break;
            case "first": call(name, near(5), near(1)); break;
            case "meeting": call(name, near(5), near(5)); break;
            case "answered": call(name, near(6)); break;
            case "heard": {
                int f = near(4);
                boolean true1 = !m.s.clouds.isEmpty() && Model.isFolk(m.s, f) && random.nextInt(3) > 0;
                call(name, f, true1 ? Model.tells(m.s, random.nextInt(m.s.clouds.size()), f) : near(9));
                break;
            }
            case "ask": call(name, near(1)); break;
            case "way": call(name, near(5), near(5), upTo(6) - 1 - random.nextInt(2)); break;
            case "part": call(name, near(5), near(5), near(1)); break;
            case "leave": call(name, near(1)); break;
            case "fair": call(name, near(4)); break;
            case "few": call(name, near(21), near(99)); break;
            case "compare": call(name, upTo(m.s.laws.size() + 1) - 1); break;
            case "seasons": call(name, near(1000000), near(60)); break;
            case "drawn": call(name, near(5), near(2)); break;
            case "image": call(name, near(1)); break;
            case "back":
                if (random.nextInt(3) == 0) {
                    call(name, near(1));
                }
                break;
            case "count": call(name, near(17)); break;
            default: call(name); break;
        }
    }

    private void feedAll(byte[] bytes) {
        int had = m.tape.size();
        for (int i = 0; i < bytes.length; i += 20) {
            int[] five = new int[5];
            for (int j = 0; j < 20; j++) {
                five[j / 4] |= (i + j < bytes.length ? bytes[i + j] & 255 : 32) << (24 - 8 * (j % 4));
            }
            call("feed", five);
        }
        call("end", had + bytes.length);
    }

    private void rowBytes() {
        byte[] bytes = new byte[upTo(30)];
        for (int i = 0; i < bytes.length; i++) {
            bytes[i] = (byte) (random.nextInt(20) == 0 ? random.nextInt(256) : i % 3 == 2 ? upTo(9) : upTo(5));
        }
        feedAll(bytes);
        call("row");
        call("wrong");
    }

    private void text() {
        boolean orders = random.nextBoolean();
        call("end", 0);
        String text = new Texts(random, orders).text();
        byte[] bytes = new byte[text.length()];
        for (int i = 0; i < bytes.length; i++) {
            bytes[i] = (byte) text.charAt(i);
        }
        if (bytes.length > 400) {
            bytes = Arrays.copyOf(bytes, 400);
        }
        run.add("    // " + text);
        feedAll(bytes);
        if (random.nextInt(20) == 0) {
            orders = !orders;
        }
        call(orders ? "orders" : "law");
        call("fault");
        call("stopped");
        if (!orders && m.fault == -1 && random.nextBoolean()) {
            call("force", m.s.laws.size() - 1);
        }
    }

    private void call(String name, int... a) {
        if (wrong > 0) {
            return;
        }
        long want = m.call(name, a);
        long got = answer(name, a);
        answers++;
        String row = name + Arrays.toString(a).replace('[', '(').replace(']', ')') + " -> " + got;
        run.add(row);
        if (got != want) {
            wrong++;
            run.add("  due is " + want);
        }
    }

    private long answer(String name, int[] a) {
        switch (name) {
            case "cloud": return x.cloud(a[0], a[1], a[2]);
            case "of": return x.of(a[0], a[1]);
            case "folk": return x.folk(a[0], a[1]);
            case "at": return x.at(a[0], a[1]);
            case "asks": return x.asks(a[0], a[1], a[2]);
            case "road": return x.road(a[0], a[1], a[2]);
            case "box": return x.box(a[0], a[1]);
            case "terms": return x.terms(a[0], a[1]);
            case "feed": return x.feed(a[0], a[1], a[2], a[3], a[4]);
            case "end": return x.end(a[0]);
            case "row": return x.row();
            case "wrong": return x.wrong();
            case "law": return x.law();
            case "orders": return x.orders();
            case "fault": return x.fault();
            case "stopped": return x.stopped();
            case "force": return x.force(a[0]);
            case "ring": return x.ring(a[0], a[1]);
            case "engage": return x.engage(a[0]);
            case "smash": return x.smash(a[0]);
            case "pass": return x.pass();
            case "undo": return x.undo();
            case "where": return x.where(a[0], a[1]);
            case "first": return x.first(a[0], a[1]);
            case "meeting": return x.meeting(a[0], a[1]);
            case "again": return x.again();
            case "answered": return x.answered(a[0]);
            case "heard": return x.heard(a[0], a[1]);
            case "forget": return x.forget();
            case "canBe": return x.canBe();
            case "ask": return x.ask(a[0]);
            case "way": return x.way(a[0], a[1], a[2]);
            case "part": return x.part(a[0], a[1], a[2]);
            case "leave": return x.leave(a[0]);
            case "needed": return x.needed();
            case "fair": return x.fair(a[0]);
            case "few": return x.few(a[0], a[1]);
            case "compare": return x.compare(a[0]);
            case "seasons": return x.seasons(a[0], a[1]);
            case "drawn": return x.drawn(a[0], a[1]);
            case "image": return x.image(a[0]);
            case "back": return x.back(a[0]);
            case "count": return x.count(a[0]);
            case "status": return x.status();
            default: throw new IllegalStateException(name);
        }
    }
}
