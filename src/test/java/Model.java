import java.util.ArrayList;
import java.util.Arrays;
import java.util.Collections;
import java.util.HashMap;
import java.util.List;
import java.util.Map;

/**
 * The document once more, written as plainly and as unlike the program as can be: trees for texts, all rows tried,
 * whole copies for what is undone. The program's answers are compared with it.
 */
final class Model {
    interface Sum {
        /** null: BROKEN. */
        Long of(Map<String, Integer> words);
    }

    static final class Clause {
        String verb;
        Sum first;
        Sum second;
        int times = 1;
        Sum test;
    }

    static final class Refused extends RuntimeException {
        private static final long serialVersionUID = 1L;
        final int why;

        Refused(int why) {
            this.why = why;
        }
    }

    static final class Fault extends RuntimeException {
        private static final long serialVersionUID = 1L;
        final int place;

        Fault(int place) {
            this.place = place;
        }
    }

    static final class State {
        int[][] road = new int[6][6];
        boolean[] smashed = new boolean[6];
        List<int[]> clouds = new ArrayList<>(); // kind, rage, box
        List<int[]> folk = new ArrayList<>(); // box, ears, engaged, wet, knowing
        List<int[]> heard = new ArrayList<>(); // folk, told
        int[] terms = {0, 1, 0};
        List<List<Clause>> laws = new ArrayList<>();
        int force = -1;

        State copy() {
            State s = new State();
            for (int i = 0; i < 6; i++) {
                s.road[i] = road[i].clone();
            }
            s.smashed = smashed.clone();
            clouds.forEach(c -> s.clouds.add(c.clone()));
            folk.forEach(f -> s.folk.add(f.clone()));
            heard.forEach(h -> s.heard.add(h.clone()));
            s.terms = terms.clone();
            s.laws.addAll(laws);
            s.force = force;
            return s;
        }
    }

    static final class Done {
        int deed;
        State ahead;
    }

    State s = new State();
    List<Done> done = new ArrayList<>();
    State[] images = new State[2];
    State season;
    List<Integer> tape = new ArrayList<>();
    int fault = -1;
    int stopped = -1;
    int wrong = 0;
    int status = 0;
    Map<Integer, Integer> refusals = new HashMap<>();

    // ---- texts

    static final class Parser {
        final List<String> tokens = new ArrayList<>();
        final List<Integer> places = new ArrayList<>();
        final boolean orders;
        int i = 0;
        int parts = 0;

        Parser(List<Integer> bytes, boolean orders) {
            this.orders = orders;
            StringBuilder b = new StringBuilder();
            bytes.forEach(x -> b.append((char) (int) x));
            java.util.regex.Matcher m = java.util.regex.Pattern.compile("[a-z]+|[0-9]+|[^ ]", java.util.regex.Pattern.DOTALL).matcher(b);
            while (m.find()) {
                tokens.add(m.group());
                places.add(m.start());
            }
            tokens.add("");
            places.add(bytes.size());
        }

        Fault fault() {
            return new Fault(places.get(i));
        }

        boolean sees(String t) {
            return tokens.get(i).equals(t);
        }

        boolean takes(String t) {
            if (sees(t)) {
                i++;
                return true;
            }
            return false;
        }

        void needs(String t) {
            if (!takes(t)) {
                throw fault();
            }
        }

        List<Clause> text() {
            List<Clause> all = new ArrayList<>();
            do {
                if (all.size() == 12) {
                    throw fault();
                }
                all.add(clause());
            } while (takes(";"));
            if (!sees("")) {
                throw fault();
            }
            return all;
        }

        Clause clause() {
            Clause c = new Clause();
            String t = tokens.get(i);
            List<String> verbs = orders ? List.of("ring", "engage", "smash", "pass") : List.of("tells", "soaks", "goes", "bars");
            if (!verbs.contains(t)) {
                throw fault();
            }
            i++;
            c.verb = t;
            if (!t.equals("pass") && !t.equals("bars")) {
                c.first = sum(0);
            }
            if (t.equals("ring")) {
                needs("to");
                c.second = sum(0);
            }
            if (orders && takes("times")) {
                c.times = number(1, 20);
            }
            if (takes("if")) {
                c.test = test(0);
            }
            return c;
        }

        int number(int least, int most) {
            String t = tokens.get(i);
            if (!t.matches("[0-9]+")) {
                throw fault();
            }
            java.math.BigInteger n = new java.math.BigInteger(t);
            if (n.compareTo(java.math.BigInteger.valueOf(least)) < 0 || n.compareTo(java.math.BigInteger.valueOf(most)) > 0) {
                throw fault();
            }
            i++;
            return n.intValue();
        }

        Sum test(int deep) {
            List<Sum> all = new ArrayList<>();
            do {
                all.add(both(deep));
            } while (takes("or"));
            return w -> {
                for (Sum x : all) {
                    Long v = x.of(w);
                    if (v == null || v == 1) {
                        return v;
                    }
                }
                return 0L;
            };
        }

        Sum both(int deep) {
            List<Sum> all = new ArrayList<>();
            do {
                all.add(plain(deep));
            } while (takes("and"));
            return w -> {
                for (Sum x : all) {
                    Long v = x.of(w);
                    if (v == null || v == 0) {
                        return v;
                    }
                }
                return 1L;
            };
        }

        Sum plain(int deep) {
            if (takes("not")) {
                Sum x = plain(deep);
                return w -> {
                    Long v = x.of(w);
                    return v == null ? null : (Long) (1 - v);
                };
            }
            if (sees("(")) {
                if (deep == 8) {
                    throw fault();
                }
                i++;
                Sum x = test(deep + 1);
                needs(")");
                return x;
            }
            Sum one = sum(deep);
            String t = tokens.get(i);
            if (!List.of("<", ">", "=").contains(t)) {
                throw fault();
            }
            i++;
            Sum other = sum(deep);
            return w -> {
                Long a = one.of(w);
                Long b = other.of(w);
                if (a == null || b == null) {
                    return null;
                }
                int sign = Long.compare(a, b);
                return (t.equals("<") ? sign < 0 : t.equals(">") ? sign > 0 : sign == 0) ? 1L : 0L;
            };
        }

        Sum sum(int deep) {
            Sum x = term(deep);
            while (sees("+") || sees("-")) {
                x = two(x, tokens.get(i++).charAt(0), term(deep));
            }
            return x;
        }

        Sum term(int deep) {
            Sum x = part(deep);
            while (sees("*") || sees("/") || sees("%")) {
                x = two(x, tokens.get(i++).charAt(0), part(deep));
            }
            return x;
        }

        static Sum two(Sum one, char sign, Sum other) {
            return w -> {
                Long a = one.of(w);
                Long b = other.of(w);
                if (a == null || b == null || (sign == '/' || sign == '%') && b == 0) {
                    return null;
                }
                long r = sign == '+' ? a + b : sign == '-' ? a - b : sign == '*' ? a * b : sign == '/' ? a / b : a - a / b * b;
                return Math.abs(r) > 1_000_000_000L ? null : (Long) r;
            };
        }

        Sum part(int deep) {
            if (sees("[")) {
                if (deep == 8) {
                    throw fault();
                }
                i++;
                Sum x = sum(deep + 1);
                needs("]");
                return x;
            }
            if (parts == 50) {
                throw fault();
            }
            String t = tokens.get(i);
            List<String> words = orders ? Arrays.asList("night done latest learnt soaked at busy".split(" "))
                : Arrays.asList("cloud kind rage box folk knows wet night mood".split(" "));
            if (t.matches("[0-9]+")) {
                long n = number(0, 1000);
                parts++;
                return w -> n;
            }
            if (!words.contains(t)) {
                throw fault();
            }
            parts++;
            i++;
            String name = t.equals("at") ? "at" + number(0, 5) : t.equals("busy") ? "busy" + number(0, 4) : t;
            return w -> (long) w.get(name);
        }
    }

    // ---- laws

    static Map<String, Integer> lawWords(State s, int cloud, int folk) {
        int[] c = s.clouds.get(cloud);
        Map<String, Integer> w = new HashMap<>();
        w.put("cloud", cloud);
        w.put("kind", c[0]);
        w.put("rage", c[1]);
        w.put("box", c[2]);
        w.put("folk", folk);
        w.put("knows", folk < 0 ? -1 : s.folk.get(folk)[1] >> c[0] & 1);
        w.put("wet", folk < 0 ? -1 : s.folk.get(folk)[3]);
        w.put("night", s.terms[0]);
        w.put("mood", s.terms[2]);
        return w;
    }

    /** What the clauses of a verb that hold say, in their order. */
    static List<Long> said(State s, String verb, int cloud, int folk) {
        List<Long> all = new ArrayList<>();
        if (s.force < 0) {
            return all;
        }
        Map<String, Integer> w = lawWords(s, cloud, folk);
        for (Clause c : s.laws.get(s.force)) {
            if (!c.verb.equals(verb)) {
                continue;
            }
            Long so = c.test == null ? (Long) 1L : c.test.of(w);
            Long told = c.first == null ? (Long) 1L : c.first.of(w);
            if (so != null && so == 1 && told != null) {
                all.add(told);
            }
        }
        return all;
    }

    static int clamp(long x) {
        return (int) Math.max(0, Math.min(9, x));
    }

    static int tells(State s, int cloud, int folk) {
        List<Long> all = said(s, "tells", cloud, folk);
        if (!all.isEmpty()) {
            return clamp(all.get(all.size() - 1));
        }
        int[] c = s.clouds.get(cloud);
        return (s.folk.get(folk)[1] >> c[0] & 1) == 1 ? c[1] : 0;
    }

    static int soaks(State s, int cloud, int folk) {
        List<Long> all = said(s, "soaks", cloud, folk);
        return all.isEmpty() ? s.clouds.get(cloud)[1] : clamp(all.get(all.size() - 1));
    }

    static int goes(State s, int cloud) {
        List<Long> all = said(s, "goes", cloud, -1);
        int here = s.clouds.get(cloud)[2];
        long there = all.isEmpty() ? (here == 5 ? 0 : here + 1) : all.get(all.size() - 1);
        return there >= 0 && there <= 5 && s.road[here][(int) there] > 0 ? (int) there : here;
    }

    static boolean barred(State s, int cloud, int folk) {
        return !said(s, "bars", cloud, folk).isEmpty();
    }

    static boolean[][] joined(State s, int gone) {
        boolean[][] j = new boolean[6][6];
        for (int a = 0; a < 6; a++) {
            for (int b = 0; b < 6; b++) {
                boolean stand = stands(s, gone, a) && stands(s, gone, b);
                j[a][b] = stand && (a == b || s.road[a][b] > 0);
            }
        }
        for (int k = 0; k < 6; k++) {
            for (int a = 0; a < 6; a++) {
                for (int b = 0; b < 6; b++) {
                    j[a][b] |= j[a][k] && j[k][b];
                }
            }
        }
        return j;
    }

    static boolean stands(State s, int gone, int box) {
        return !s.smashed[box] && (gone >> box & 1) == 0;
    }

    static boolean canRing(State s, int cloud, int folk) {
        return joined(s, 0)[s.clouds.get(cloud)[2]][s.folk.get(folk)[0]] && !barred(s, cloud, folk);
    }

    // ---- deeds

    static boolean isCloud(State s, long c) {
        return c >= 0 && c < s.clouds.size();
    }

    static boolean isFolk(State s, long f) {
        return f >= 0 && f < s.folk.size();
    }

    static int doRing(State s, long cloud, long folk) {
        if (!isCloud(s, cloud) || !isFolk(s, folk)) {
            throw new Refused(-2);
        }
        if (!canRing(s, (int) cloud, (int) folk)) {
            throw new Refused(-3);
        }
        int[] f = s.folk.get((int) folk);
        int more = f[2] == 1 ? soaks(s, (int) cloud, (int) folk) : tells(s, (int) cloud, (int) folk);
        int which = f[2] == 1 ? 3 : 4;
        f[which] = Math.min(999, f[which] + more);
        return more;
    }

    static int doEngage(State s, long folk) {
        if (!isFolk(s, folk)) {
            throw new Refused(-2);
        }
        return s.folk.get((int) folk)[2] ^= 1;
    }

    static int doSmash(State s, long box) {
        if (box < 0 || box > 5) {
            throw new Refused(-1);
        }
        s.smashed[(int) box] ^= true;
        return s.smashed[(int) box] ? 1 : 0;
    }

    static int doPass(State s) {
        if (s.terms[0] >= 999) {
            throw new Refused(-3);
        }
        night(s);
        return s.terms[0];
    }

    static void night(State s) {
        int[] next = new int[s.clouds.size()];
        for (int c = 0; c < next.length; c++) {
            next[c] = goes(s, c);
        }
        for (int c = 0; c < next.length; c++) {
            s.clouds.get(c)[2] = next[c];
        }
        s.terms[0]++;
    }

    int deed(int which, long one, long other) {
        Done d = new Done();
        d.deed = which;
        d.ahead = s.copy();
        int answer = which == 0 ? doRing(s, one, other) : which == 1 ? doEngage(s, one) : which == 2 ? doSmash(s, one) : doPass(s);
        done.add(d);
        if (done.size() > 16) {
            done.remove(0);
        }
        return answer;
    }

    int undo() {
        if (done.isEmpty()) {
            throw new Refused(-3);
        }
        Done d = done.remove(done.size() - 1);
        for (int c = 0; c < s.clouds.size(); c++) {
            s.clouds.get(c)[2] = d.ahead.clouds.get(c)[2];
        }
        for (int f = 0; f < s.folk.size(); f++) {
            for (int k = 2; k < 5; k++) {
                s.folk.get(f)[k] = d.ahead.folk.get(f)[k];
            }
        }
        s.smashed = d.ahead.smashed.clone();
        s.terms[0] = d.ahead.terms[0];
        return d.deed;
    }

    int total(int which) {
        return s.folk.stream().mapToInt(f -> f[which]).sum();
    }

    int runOrders(List<Clause> text) {
        State ahead = s.copy();
        List<Done> doneAhead = new ArrayList<>(done);
        int ran = 0;
        int latest = -1;
        for (int i = 0; i < text.size(); i++) {
            Clause c = text.get(i);
            for (int t = 0; t < c.times; t++) {
                Map<String, Integer> w = new HashMap<>();
                w.put("night", s.terms[0]);
                w.put("done", ran);
                w.put("latest", latest);
                w.put("learnt", total(4));
                w.put("soaked", total(3));
                for (int k = 0; k < 6; k++) {
                    w.put("at" + k, isCloud(s, k) ? s.clouds.get(k)[2] : -1);
                    w.put("busy" + k, isFolk(s, k) ? s.folk.get(k)[2] : -1);
                }
                if (c.test != null) {
                    Long so = c.test.of(w);
                    if (so == null || so == 0) {
                        continue;
                    }
                }
                try {
                    Long one = c.first == null ? (Long) 0L : c.first.of(w);
                    Long other = c.second == null ? (Long) 0L : c.second.of(w);
                    if (one == null || other == null) {
                        throw new Refused(-3);
                    }
                    int which = List.of("ring", "engage", "smash", "pass").indexOf(c.verb);
                    int answer = deed(which, one, other);
                    if (which == 0) {
                        latest = answer;
                    }
                    ran++;
                } catch (Refused r) {
                    s = ahead;
                    done = doneAhead;
                    stopped = i;
                    throw new Refused(-3);
                }
            }
        }
        return ran;
    }

    List<Clause> read(boolean orders) {
        List<Integer> bytes = tape;
        tape = new ArrayList<>();
        fault = -1;
        try {
            return new Parser(bytes, orders).text();
        } catch (Fault f) {
            fault = f.place;
            throw new Refused(-6);
        }
    }

    // ---- calls

    static final List<String> TOLD = List.of("cloud", "folk", "road", "terms", "row", "law", "orders", "force", "ring", "engage",
        "smash", "pass", "undo", "heard", "seasons", "image", "back");

    long call(String name, int... a) {
        if (!TOLD.contains(name)) {
            return look(name, a);
        }
        try {
            long answer = change(name, a);
            status = 0;
            return answer;
        } catch (Refused r) {
            status = r.why;
            refusals.merge(r.why, 1, Integer::sum);
            return r.why;
        }
    }

    static void number(boolean can) {
        if (!can) {
            throw new Refused(-1);
        }
    }

    static boolean in(int x, int least, int most) {
        return x >= least && x <= most;
    }

    long change(String name, int[] a) {
        switch (name) {
            case "cloud":
                number(in(a[0], 0, 4) && in(a[1], 0, 9) && in(a[2], 0, 5));
                if (s.clouds.size() == 6) {
                    throw new Refused(-5);
                }
                s.clouds.add(a.clone());
                done.clear();
                return s.clouds.size() - 1;
            case "folk":
                number(in(a[0], 0, 5) && in(a[1], 0, 31));
                if (s.folk.size() == 5) {
                    throw new Refused(-5);
                }
                s.folk.add(new int[] {a[0], a[1], 0, 0, 0});
                done.clear();
                return s.folk.size() - 1;
            case "road": {
                number(in(a[0], 0, 5) && in(a[1], 0, 5) && a[0] != a[1] && in(a[2], 0, 9));
                int was = s.road[a[0]][a[1]];
                s.road[a[0]][a[1]] = a[2];
                s.road[a[1]][a[0]] = a[2];
                return was;
            }
            case "terms": {
                number(in(a[0], 0, 2) && in(a[1], 0, new int[] {999, 10, 9}[a[0]]));
                int was = s.terms[a[0]];
                s.terms[a[0]] = a[1];
                done.clear();
                return was;
            }
            case "row":
                return row();
            case "law": {
                if (s.laws.size() == 6) {
                    tape = new ArrayList<>();
                    throw new Refused(-5);
                }
                s.laws.add(read(false));
                return s.laws.size() - 1;
            }
            case "orders":
                stopped = -1;
                return runOrders(read(true));
            case "force": {
                if (!in(a[0], -1, s.laws.size() - 1)) {
                    throw new Refused(-2);
                }
                int was = s.force;
                s.force = a[0];
                return was;
            }
            case "ring":
                return deed(0, a[0], a[1]);
            case "engage":
                return deed(1, a[0], 0);
            case "smash":
                return deed(2, a[0], 0);
            case "pass":
                return deed(3, 0, 0);
            case "undo":
                return undo();
            case "heard":
                number(in(a[1], 0, 9));
                if (!isFolk(s, a[0])) {
                    throw new Refused(-2);
                }
                if (s.heard.size() == 6) {
                    throw new Refused(-5);
                }
                s.heard.add(a.clone());
                return s.heard.size();
            case "seasons":
                return seasons(a[0], a[1]);
            case "image":
                number(in(a[0], 0, 1));
                images[a[0]] = s.copy();
                return 0;
            case "back":
                number(in(a[0], 0, 1));
                if (images[a[0]] == null) {
                    throw new Refused(-2);
                }
                s = images[a[0]].copy();
                done.clear();
                return 0;
            default:
                throw new IllegalStateException(name);
        }
    }

    int row() {
        if (tape.isEmpty()) {
            throw new Refused(-6);
        }
        int told = 0;
        wrong = 0;
        while (!tape.isEmpty()) {
            List<Integer> three = new ArrayList<>(tape.subList(0, Math.min(3, tape.size())));
            tape = new ArrayList<>(tape.subList(three.size(), tape.size()));
            if (three.size() == 3 && three.get(0) < 6 && three.get(1) < 6 && !three.get(0).equals(three.get(1)) && three.get(2) < 10) {
                s.road[three.get(0)][three.get(1)] = three.get(2);
                s.road[three.get(1)][three.get(0)] = three.get(2);
                told++;
            } else {
                wrong++;
            }
        }
        return told;
    }

    int seasons(int seed, int n) {
        number(in(seed, 0, 1_000_000) && in(n, 1, 60));
        if (s.clouds.isEmpty() || s.folk.isEmpty()) {
            throw new Refused(-3);
        }
        State p = s.copy();
        long[] draw = {seed};
        int rang = 0;
        for (int i = 0; i < n; i++) {
            if (p.terms[0] == 999) {
                break;
            }
            int c = draw(draw, p.clouds.size());
            int f = draw(draw, p.folk.size());
            int what = draw(draw, 4);
            if (what <= 1 && canRing(p, c, f)) {
                doRing(p, c, f);
                rang++;
            }
            if (what == 2) {
                doEngage(p, f);
            }
            if (what == 3) {
                doSmash(p, p.folk.get(f)[0]);
            }
            night(p);
        }
        season = p;
        return rang;
    }

    static int draw(long[] state, int m) {
        state[0] = (state[0] * 1103 + 12345) % 1_000_003;
        return (int) (state[0] % m);
    }

    static int bit(boolean so) {
        return so ? 1 : 0;
    }

    long look(String name, int[] a) {
        switch (name) {
            case "of":
                return !isCloud(s, a[0]) || !in(a[1], 0, 3) ? -1 : a[1] == 3 ? goes(s, a[0]) : s.clouds.get(a[0])[a[1]];
            case "at":
                return !isFolk(s, a[0]) || !in(a[1], 0, 4) ? -1 : s.folk.get(a[0])[a[1]];
            case "asks":
                return !isCloud(s, a[0]) || !isFolk(s, a[1]) || !in(a[2], 0, 2) ? -1
                    : a[2] == 0 ? tells(s, a[0], a[1]) : a[2] == 1 ? soaks(s, a[0], a[1]) : bit(canRing(s, a[0], a[1]));
            case "box": {
                if (!in(a[0], 0, 5) || !in(a[1], 0, 7)) {
                    return -1;
                }
                int bits = 0;
                for (int b = 0; b < 6; b++) {
                    bits |= bit(b != a[0] && joined(s, 0)[a[0]][b]) << b;
                }
                return a[1] == 0 ? bit(s.smashed[a[0]]) : a[1] == 1 ? bits : s.road[a[0]][a[1] - 2];
            }
            case "feed":
                if (tape.size() > 380) {
                    return -1;
                }
                for (int x : a) {
                    for (int k = 3; k >= 0; k--) {
                        tape.add(x >>> 8 * k & 255);
                    }
                }
                return tape.size();
            case "end":
                if (!in(a[0], 0, tape.size())) {
                    return -1;
                }
                tape = new ArrayList<>(tape.subList(0, a[0]));
                return a[0];
            case "wrong":
                return wrong;
            case "fault":
                return fault;
            case "stopped":
                return stopped;
            case "where":
                return !isCloud(s, a[0]) || !in(a[1], 0, 60) ? -1 : ahead(a[1]).clouds.get(a[0])[2];
            case "first":
                return first(a[0], a[1]);
            case "meeting":
                return meeting(a[0], a[1]);
            case "again":
                for (int n = 1; n <= 60; n++) {
                    State p = ahead(n);
                    boolean same = true;
                    for (int c = 0; c < s.clouds.size(); c++) {
                        same &= p.clouds.get(c)[2] == s.clouds.get(c)[2];
                    }
                    if (same) {
                        return n;
                    }
                }
                return -1;
            case "answered": {
                if (!in(a[0], 0, s.clouds.size())) {
                    return -1;
                }
                int[] best = answered(s);
                return best[a[0]];
            }
            case "compare": {
                if (!in(a[0], -1, s.laws.size() - 1)) {
                    return -1;
                }
                State p = s.copy();
                p.force = a[0];
                return answered(p)[0];
            }
            case "forget": {
                int was = s.heard.size();
                s.heard.clear();
                return was;
            }
            case "canBe":
                return canBe().stream().mapToInt(c -> 1 << c).sum();
            case "ask":
                return ask(a[0]);
            case "way":
                return way(a[0], a[1], a[2]);
            case "part":
                return part(a[0], a[1], a[2]);
            case "leave":
                return leave(a[0]);
            case "needed":
                return needed();
            case "fair":
                return fair(a[0]);
            case "few":
                return few(a[0], a[1]);
            case "drawn": {
                if (season == null || !in(a[1], 0, 2)) {
                    return -1;
                }
                if (a[1] == 0) {
                    return isCloud(season, a[0]) ? season.clouds.get(a[0])[2] : -1;
                }
                return isFolk(season, a[0]) ? season.folk.get(a[0])[a[1] + 2] : -1;
            }
            case "count":
                return count(a[0]);
            case "status":
                return status;
            default:
                throw new IllegalStateException(name);
        }
    }

    State ahead(int n) {
        State p = s.copy();
        for (int i = 0; i < n; i++) {
            night(p);
        }
        return p;
    }

    int first(int box, int what) {
        if (!in(box, 0, 5) || !in(what, 0, 1)) {
            return -1;
        }
        for (int n = 0; n <= 60; n++) {
            State p = ahead(n);
            for (int c = 0; c < p.clouds.size(); c++) {
                if (p.clouds.get(c)[2] == box) {
                    return what == 0 ? n : c;
                }
            }
        }
        return -1;
    }

    int meeting(int one, int other) {
        if (!isCloud(s, one) || !isCloud(s, other) || one == other) {
            return -1;
        }
        for (int n = 0; n <= 60; n++) {
            State p = ahead(n);
            if (p.clouds.get(one)[2] == p.clouds.get(other)[2]) {
                return n;
            }
        }
        return -1;
    }

    /** How much, then by whom each cloud: all rows in their order, the first of the best stays. */
    static int[] answered(State s) {
        int n = s.clouds.size();
        int[][] gain = new int[n][s.folk.size()];
        for (int c = 0; c < n; c++) {
            for (int f = 0; f < s.folk.size(); f++) {
                gain[c][f] = s.folk.get(f)[2] == 0 && canRing(s, c, f) ? tells(s, c, f) : -1;
            }
        }
        int[] best = new int[n + 1];
        best[0] = -1;
        tryRows(gain, new int[n], 0, 0, best);
        return best;
    }

    static void tryRows(int[][] gain, int[] row, int c, int sum, int[] best) {
        if (c == row.length) {
            if (sum > best[0]) {
                best[0] = sum;
                System.arraycopy(row, 0, best, 1, row.length);
            }
            return;
        }
        for (int f = 0; f <= 5; f++) {
            boolean free = true;
            for (int k = 0; k < c; k++) {
                free &= row[k] != f || f == 5;
            }
            if (!free || f < 5 && (f >= gain[c].length || gain[c][f] < 0)) {
                continue;
            }
            row[c] = f;
            tryRows(gain, row, c + 1, sum + (f == 5 ? 0 : gain[c][f]), best);
        }
    }

    List<Integer> canBe() {
        List<Integer> all = new ArrayList<>();
        for (int c = 0; c < s.clouds.size(); c++) {
            boolean can = true;
            for (int[] h : s.heard) {
                can &= !barred(s, c, h[0]) && tells(s, c, h[0]) == h[1];
            }
            if (can) {
                all.add(c);
            }
        }
        return all;
    }

    int ask(int what) {
        List<Integer> left = canBe();
        if (!in(what, 0, 1) || left.isEmpty() || s.folk.isEmpty()) {
            return -1;
        }
        int who = -1;
        int fewest = 100;
        for (int f = 0; f < s.folk.size(); f++) {
            List<String> told = new ArrayList<>();
            for (int c : left) {
                told.add(barred(s, c, f) ? "barred" : "" + tells(s, c, f));
            }
            int most = told.stream().mapToInt(t -> Collections.frequency(told, t)).max().getAsInt();
            if (most < fewest) {
                fewest = most;
                who = f;
            }
        }
        return what == 0 ? who : fewest;
    }

    List<Integer> bestWay;
    int bestLong;

    int way(int from, int to, int i) {
        if (!in(from, 0, 5) || !in(to, 0, 5) || i < -1) {
            return -1;
        }
        bestWay = null;
        walk(new ArrayList<>(List.of(from)), to, 0);
        if (bestWay == null) {
            return -1;
        }
        return i == -1 ? bestLong : i < bestWay.size() - 1 ? bestWay.get(i + 1) : -1;
    }

    /** Ways are tried in the order of their rows, so the first of the shortest stays. */
    void walk(List<Integer> row, int to, int length) {
        int here = row.get(row.size() - 1);
        if (here == to) {
            if (bestWay == null || length < bestLong) {
                bestWay = new ArrayList<>(row);
                bestLong = length;
            }
            return;
        }
        for (int b = 0; b < 6; b++) {
            if (s.road[here][b] > 0 && !row.contains(b)) {
                row.add(b);
                walk(row, to, length + s.road[here][b]);
                row.remove(row.size() - 1);
            }
        }
    }

    static List<Integer> setsByFewest() {
        List<Integer> all = new ArrayList<>();
        for (int bits = 0; bits < 64; bits++) {
            all.add(bits);
        }
        all.sort((x, y) -> Integer.bitCount(x) != Integer.bitCount(y) ? Integer.bitCount(x) - Integer.bitCount(y) : x - y);
        return all;
    }

    int smashedBits() {
        int bits = 0;
        for (int b = 0; b < 6; b++) {
            bits |= bit(s.smashed[b]) << b;
        }
        return bits;
    }

    int part(int one, int other, int what) {
        if (!in(one, 0, 5) || !in(other, 0, 5) || one == other || !in(what, 0, 1)) {
            return -1;
        }
        for (int bits : setsByFewest()) {
            if ((bits & (smashedBits() | 1 << one | 1 << other)) == 0 && !joined(s, bits)[one][other]) {
                return what == 0 ? Integer.bitCount(bits) : bits;
            }
        }
        return -1;
    }

    int leave(int what) {
        if (!in(what, 0, 1)) {
            return -1;
        }
        for (int bits : setsByFewest()) {
            boolean can = (bits & smashedBits()) == 0;
            for (int[] f : s.folk) {
                can &= (bits >> f[0] & 1) == 1;
            }
            boolean[][] j = joined(s, 63 & ~bits);
            for (int x = 0; x < 6; x++) {
                for (int y = 0; y < 6; y++) {
                    can &= (bits >> x & 1) == 0 || (bits >> y & 1) == 0 || j[x][y];
                }
            }
            if (can) {
                return what == 0 ? Integer.bitCount(bits) : bits;
            }
        }
        return -1;
    }

    int needed() {
        int bits = 0;
        boolean[][] all = joined(s, 0);
        for (int b = 0; b < 6; b++) {
            boolean[][] without = joined(s, 1 << b);
            for (int x = 0; x < 6; x++) {
                for (int y = 0; y < 6; y++) {
                    if (!s.smashed[b] && x != b && y != b && x != y && all[x][y] && !without[x][y]) {
                        bits |= 1 << b;
                    }
                }
            }
        }
        return bits;
    }

    int fair(int folk) {
        if (!isFolk(s, folk)) {
            return -1;
        }
        int[] has = new int[s.folk.size()];
        for (int c = 0; c < s.clouds.size(); c++) {
            int cloud = c;
            List<Integer> can = new ArrayList<>();
            for (int f = 0; f < has.length; f++) {
                if (canRing(s, cloud, f)) {
                    can.add(f);
                }
            }
            if (!can.isEmpty()) {
                int who = Collections.min(can, (x, y) -> has[x] != has[y] ? has[x] - has[y] : x - y);
                has[who] += tells(s, cloud, who);
            }
        }
        return has[folk];
    }

    long few(int k, int n) {
        if (!in(k, 1, 20) || !in(n, 0, 99)) {
            return -1;
        }
        long[] p = new long[101];
        p[0] = 1_000_000_000_000L;
        for (int i = 0; i < n; i++) {
            long[] next = new long[101];
            for (int j = 0; j < 100; j++) {
                next[j] += p[j] * (10 - s.terms[1]) / 10;
                next[j + 1] += p[j] * s.terms[1] / 10;
            }
            p = next;
        }
        return Arrays.stream(p, 0, k).sum();
    }

    int count(int what) {
        int[] why = {-1, -2, -3, -5, -6};
        switch (what) {
            case 0:
                return s.clouds.size();
            case 1:
                return s.folk.size();
            case 2:
                return smashedBits();
            case 3:
                return total(4);
            case 4:
                return total(3);
            case 5:
                return s.heard.size();
            case 6:
                return s.laws.size();
            case 7:
                return done.size();
            case 8:
                return tape.size();
            case 14:
                return s.force;
            default:
                if (in(what, 9, 13)) {
                    return refusals.getOrDefault(why[what - 9], 0);
                }
                return in(what, 15, 17) ? s.terms[what - 15] : -1;
        }
    }
}
