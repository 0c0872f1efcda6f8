import java.util.ArrayList;
import java.util.Arrays;
import java.util.HashSet;
import java.util.List;
import java.util.Set;
import java.util.TreeMap;
import java.util.Map;

/**
 * The document once more, as plainly and slowly as it can be said, so that runs of calls
 * can be answered twice. Nothing is shared with the class under test.
 */
final class Model {
    static final class Fault extends RuntimeException {
        private static final long serialVersionUID = 1L;
        final int number;
        final int place;
        Fault(int number, int place) {
            this.number = number;
            this.place = place;
        }
    }

    static final class ByZero extends RuntimeException {
        private static final long serialVersionUID = 1L;
    }

    interface Expr {
        int of(Map<String, Integer> vars);
    }

    static final class Law {
        final List<Expr[]> ifs = new ArrayList<>();
        Expr last;

        static Law constant(int n) {
            Law law = new Law();
            law.last = v -> n;
            return law;
        }

        int of(Map<String, Integer> vars) {
            try {
                for (Expr[] one : ifs) {
                    if (one[0].of(vars) < one[1].of(vars)) {
                        return one[2].of(vars);
                    }
                }
                return last.of(vars);
            } catch (ByZero zero) {
                return 0;
            }
        }
    }

    static final class Token {
        final String text;
        final char sort; // n name, i int, w word, s sign, e end, x none
        final int at;
        Token(String text, char sort, int at) {
            this.text = text;
            this.sort = sort;
            this.at = at;
        }
    }

    static final class Person {
        int number;
        int wanted;
        int age;
        int had;
        Person copy() {
            Person p = new Person();
            p.number = number;
            p.wanted = wanted;
            p.age = age;
            p.had = had;
            return p;
        }
    }

    static final class State {
        int hour;
        Integer hand;
        int deaths;
        final List<Person> people = new ArrayList<>();
        final List<Integer> heard = new ArrayList<>();
        final List<Boolean> on = new ArrayList<>();
        final List<Integer> grief = new ArrayList<>();

        State copy() {
            State s = new State();
            s.hour = hour;
            s.hand = hand;
            s.deaths = deaths;
            for (Person p : people) s.people.add(p.copy());
            s.heard.addAll(heard);
            s.on.addAll(on);
            s.grief.addAll(grief);
            return s;
        }
    }

    static final class Text {
        final List<int[]> houses = new ArrayList<>();
        final List<int[]> sends = new ArrayList<>();
        Law keeps = Law.constant(1);
        Law turns = Law.constant(0);
        Law hums = Law.constant(0);
        Law dies = Law.constant(0);
        int grief = 6;
        int seed = 0;
    }

    private static final Set<String> WORDS = new HashSet<>(Arrays.asList("house", "sends", "keeps", "turns", "hums",
        "dies", "grief", "seed", "if", "then", "else", "door", "hour", "day", "part", "wants", "age", "parts", "many", "had"));
    private static final Set<String> VARS = new HashSet<>(Arrays.asList("door", "hour", "day", "part", "wants", "age",
        "parts", "many", "had"));

    private final List<Integer> tape = new ArrayList<>();
    private Text text = new Text();
    private State now = new State();
    private final List<State> past = new ArrayList<>();
    private final State[] slots = new State[3];
    private final List<int[]> told = new ArrayList<>();
    private int place = -1;

    // ---- text

    private static List<Token> tokens(List<Integer> bytes) {
        List<Token> all = new ArrayList<>();
        int i = 0;
        while (true) {
            while (i < bytes.size() && " \t\n\r".indexOf(bytes.get(i)) >= 0) i++;
            if (i == bytes.size()) {
                all.add(new Token("", 'e', i));
                return all;
            }
            int from = i;
            int c = bytes.get(i);
            StringBuilder run = new StringBuilder();
            if (c >= 'a' && c <= 'z') {
                while (i < bytes.size() && bytes.get(i) >= 'a' && bytes.get(i) <= 'z') run.append((char) (int) bytes.get(i++));
                String word = run.toString();
                all.add(new Token(word, word.length() > 8 ? 'x' : WORDS.contains(word) ? 'w' : 'n', from));
            } else if (c >= '0' && c <= '9') {
                while (i < bytes.size() && bytes.get(i) >= '0' && bytes.get(i) <= '9') run.append((char) (int) bytes.get(i++));
                all.add(new Token(run.toString(), run.length() > 4 ? 'x' : 'i', from));
            } else {
                i++;
                all.add(new Token("" + (char) c, ";=+-*/<()".indexOf(c) >= 0 ? 's' : 'x', from));
            }
        }
    }

    private static final class Parse {
        final List<Token> tokens;
        final Text text = new Text();
        final List<String> names = new ArrayList<>();
        Fault later;
        int at;

        Parse(List<Token> tokens) {
            this.tokens = tokens;
        }

        Token peek() {
            return tokens.get(at);
        }

        boolean is(String s) {
            Token t = peek();
            return (t.sort == 'w' || t.sort == 's') && t.text.equals(s);
        }

        Token any() {
            if (at == 400) throw new Fault(2, peek().at);
            return tokens.get(at++);
        }

        Token need(String s) {
            if (!is(s)) throw new Fault(1, peek().at);
            return any();
        }

        int number(int low, int high) {
            Token t = peek();
            if (t.sort != 'i') throw new Fault(1, t.at);
            any();
            int n = Integer.parseInt(t.text);
            if ((n < low || n > high) && later == null) later = new Fault(5, t.at);
            return n;
        }

        void all() {
            while (peek().sort != 'e') one();
        }

        void one() {
            Token t = peek();
            if (is("house")) {
                if (text.houses.size() == 10) throw new Fault(2, t.at);
                any();
                Token name = peek();
                if (name.sort != 'n') throw new Fault(1, name.at);
                any();
                if (names.contains(name.text) && later == null) later = new Fault(3, name.at);
                names.add(name.text);
                int a = number(0, 255);
                int b = number(0, 99);
                need(";");
                text.houses.add(new int[] {a, b});
            } else if (is("sends")) {
                if (text.sends.size() == 8) throw new Fault(2, t.at);
                any();
                int a = number(0, 23);
                int b = number(0, 255);
                need(";");
                text.sends.add(new int[] {a, b});
            } else if (is("grief")) {
                any();
                text.grief = number(1, 99);
                need(";");
            } else if (is("seed")) {
                any();
                text.seed = number(0, 9999);
                need(";");
            } else if (is("keeps")) {
                any();
                text.keeps = law();
            } else if (is("turns")) {
                any();
                text.turns = law();
            } else if (is("hums")) {
                any();
                text.hums = law();
            } else if (is("dies")) {
                any();
                text.dies = law();
            } else {
                throw new Fault(1, t.at);
            }
        }

        Law law() {
            Law law = new Law();
            need("=");
            while (is("if")) {
                if (law.ifs.size() == 4) throw new Fault(2, peek().at);
                any();
                Expr a = sum(0);
                need("<");
                Expr b = sum(0);
                need("then");
                Expr c = sum(0);
                need("else");
                law.ifs.add(new Expr[] {a, b, c});
            }
            law.last = sum(0);
            need(";");
            return law;
        }

        Expr sum(int depth) {
            Expr left = product(depth);
            while (is("+") || is("-")) {
                boolean plus = any().text.equals("+");
                Expr l = left;
                Expr r = product(depth);
                left = plus ? v -> l.of(v) + r.of(v) : v -> l.of(v) - r.of(v);
            }
            return left;
        }

        Expr product(int depth) {
            Expr left = unit(depth);
            while (is("*") || is("/")) {
                boolean by = any().text.equals("*");
                Expr l = left;
                Expr r = unit(depth);
                left = by ? v -> l.of(v) * r.of(v) : v -> over(l.of(v), r.of(v));
            }
            return left;
        }

        static int over(int a, int b) {
            if (b == 0) throw new ByZero();
            return (int) ((long) a / b);
        }

        Expr unit(int depth) {
            Token t = peek();
            if (t.sort == 'i') {
                any();
                int n = Integer.parseInt(t.text);
                return v -> n;
            }
            if (t.sort == 'w' && VARS.contains(t.text)) {
                any();
                return v -> v.get(t.text);
            }
            if (!is("(")) throw new Fault(1, t.at);
            if (depth == 6) throw new Fault(2, t.at);
            any();
            Expr inner = sum(depth + 1);
            need(")");
            return inner;
        }
    }

    int feed(int... words) {
        if (tape.size() + 20 > 2000) return -1;
        for (int w : words) {
            for (int i = 3; i >= 0; i--) tape.add(w >> 8 * i & 255);
        }
        return tape.size();
    }

    int back(int n) {
        if (n < 0 || n > tape.size()) return -1;
        for (int i = 0; i < n; i++) tape.remove(tape.size() - 1);
        return tape.size();
    }

    int read() {
        Parse parse = new Parse(tokens(tape));
        tape.clear();
        try {
            parse.all();
            if (parse.later != null) throw parse.later;
        } catch (Fault fault) {
            place = fault.place;
            return fault.number;
        }
        place = -1;
        text = parse.text;
        now = new State();
        int i = 0;
        for (int[] house : text.houses) {
            Person p = new Person();
            p.number = i++;
            p.wanted = house[0];
            p.age = house[1];
            now.people.add(p);
            now.heard.add(0);
            now.on.add(true);
            now.grief.add(0);
        }
        past.clear();
        told.clear();
        Arrays.fill(slots, null);
        return 0;
    }

    int place() {
        return place;
    }

    // ---- laws

    private int size() {
        return text.houses.size();
    }

    private boolean isHouse(int h) {
        return h >= 0 && h < size();
    }

    private static boolean isProgramme(int x) {
        return x >= 0 && x <= 255;
    }

    private static int bits(int x) {
        int n = 0;
        for (int i = 0; i < 32; i++) n += x >>> i & 1;
        return n;
    }

    private Map<String, Integer> vars(State s, int house, int hour, int part, int parts) {
        Person p = s.people.get(house);
        Map<String, Integer> v = new TreeMap<>();
        v.put("door", house);
        v.put("hour", hour % 24);
        v.put("day", hour / 24);
        v.put("part", part);
        v.put("wants", bits(p.wanted));
        v.put("age", p.age);
        v.put("parts", parts);
        v.put("many", size());
        v.put("had", bits(p.had & p.wanted));
        return v;
    }

    private static int held(int n, int most) {
        return n < 0 ? 0 : n > most ? most : n;
    }

    private int pass(State s, int house, int hour, int x) {
        int parts = bits(x);
        int turn = held(text.turns.of(vars(s, house, hour, 0, parts)), 7);
        int out = held(text.hums.of(vars(s, house, hour, 0, 0)), 255);
        for (int p = 0; p < 8; p++) {
            if ((x >> p & 1) == 1 && text.keeps.of(vars(s, house, hour, p, parts)) > 0) out |= 1 << (p + turn) % 8;
        }
        return out;
    }

    private static int lot(int n, int seed, int which) {
        long h = seed & 0xffffffffL;
        for (long v : new long[] {137, which & 0xffffffffL}) {
            h = ((h ^ v) * 1103515245L + 12345L) & 0xffffffffL;
            h = h ^ h >> 15;
        }
        return (int) ((h >> 1) % n);
    }

    private int dies(State s, int house) {
        return held(text.dies.of(vars(s, house, s.hour, 0, 0)), 100);
    }

    private boolean hears(State s, int house) {
        return s.on.get(house) && s.grief.get(house) == 0;
    }

    private int sentIn(State s) {
        if (s.hand != null) return s.hand;
        int x = 0;
        for (int[] one : text.sends) if (one[0] == s.hour % 24) x = one[1];
        return x;
    }

    private State hour(State s, boolean deaths, int seed) {
        State t = s.copy();
        for (int h = 0; h < size(); h++) {
            int x = h == 0 ? sentIn(s) : pass(s, h, s.hour, s.heard.get(h - 1));
            if (!hears(s, h)) x = 0;
            t.heard.set(h, x);
            t.people.get(h).had |= x & t.people.get(h).wanted;
            if (s.grief.get(h) > 0) {
                t.grief.set(h, s.grief.get(h) - 1);
            } else if (deaths && lot(100, seed, 16 * s.hour + h) < dies(s, h)) {
                t.grief.set(h, text.grief);
                t.deaths++;
            }
        }
        t.hand = null;
        t.hour++;
        return t;
    }

    private State later(State s, int n, boolean deaths, int seed) {
        State t = s;
        for (int i = 0; i < n; i++) t = hour(t, deaths, seed);
        return t;
    }

    private boolean content(State s, int h) {
        Person p = s.people.get(h);
        return (p.wanted & ~p.had) == 0;
    }

    private int contentOnes(State s) {
        int n = 0;
        for (int h = 0; h < size(); h++) if (content(s, h)) n++;
        return n;
    }

    // ---- face

    int house(int h, int what) {
        if (!isHouse(h)) return -1;
        Person p = now.people.get(h);
        switch (what) {
            case 0: return p.wanted;
            case 1: return p.age;
            case 2: return now.heard.get(h);
            case 3: return p.had;
            case 4: return now.on.get(h) ? 1 : 0;
            case 5: return now.grief.get(h);
            case 6: return p.number;
            case 7: return held(text.turns.of(vars(now, h, now.hour, 0, h == 0 ? 0 : bits(now.heard.get(h - 1)))), 7);
            case 8: return held(text.hums.of(vars(now, h, now.hour, 0, 0)), 255);
            case 9: return dies(now, h);
            default: return -1;
        }
    }

    int passed(int h, int x) {
        return isHouse(h) && isProgramme(x) ? pass(now, h, now.hour, x) : -1;
    }

    private void doing() {
        past.add(now.copy());
        if (past.size() > 40) past.remove(0);
    }

    boolean turn(int h, boolean on) {
        if (!isHouse(h) || now.on.get(h) == on) return false;
        doing();
        now.on.set(h, on);
        return true;
    }

    boolean send(int x) {
        if (!isProgramme(x) || size() == 0) return false;
        doing();
        now.hand = x;
        return true;
    }

    int carry(int h, int to) {
        if (!isHouse(h) || !isHouse(to) || h == to) return -1;
        doing();
        int x = now.heard.get(h);
        now.heard.set(to, x);
        now.people.get(to).had |= x & now.people.get(to).wanted;
        return x;
    }

    private static void swap(State s, int a, int b) {
        Person p = s.people.get(a);
        s.people.set(a, s.people.get(b));
        s.people.set(b, p);
    }

    boolean change(int a, int b) {
        if (!isHouse(a) || !isHouse(b) || a == b) return false;
        doing();
        swap(now, a, b);
        return true;
    }

    int hours(int n) {
        if (n < 0 || n > 72) return -1;
        if (n > 0) doing();
        now = later(now, n, true, text.seed);
        return now.hour;
    }

    boolean undo() {
        if (past.isEmpty()) return false;
        now = past.remove(past.size() - 1);
        return true;
    }

    private int come(int h, int x, int from) {
        for (int i = 0; i <= h; i++) if (!hears(now, i)) return 0;
        int y = x;
        for (int i = 1; i <= h; i++) y = pass(now, i, now.hour + from + i, y);
        return y;
    }

    private int[] row(int h) {
        int[] row = new int[256];
        for (int x = 0; x < 256; x++) row[x] = come(h, x, 0);
        return row;
    }

    int comes(int h, int x) {
        return isHouse(h) && isProgramme(x) ? come(h, x, 0) : -1;
    }

    int last(int x) {
        if (!isProgramme(x)) return -1;
        int best = -2;
        for (int h = 0; h < size(); h++) if (come(h, x, 0) != come(h, 0, 0)) best = h;
        return best;
    }

    int sendFor(int h) {
        if (!isHouse(h)) return -1;
        int[] row = row(h);
        int want = now.people.get(h).wanted;
        for (int n = 0; n <= 8; n++) {
            for (int x = 0; x < 256; x++) if (bits(x) == n && (row[x] & want) == want) return x;
        }
        return -2;
    }

    int apart(int h) {
        if (!isHouse(h)) return -1;
        Set<Integer> set = new HashSet<>();
        for (int y : row(h)) set.add(y);
        return set.size();
    }

    int code(int h, int d, int i) {
        if (!isHouse(h) || d < 1 || d > 8 || i < -1) return -1;
        int[] row = row(h);
        List<Integer> taken = new ArrayList<>();
        for (int x = 0; x < 256; x++) {
            int y = row[x];
            if (taken.stream().allMatch(t -> bits(row[t] ^ y) >= d)) taken.add(x);
        }
        if (i == -1) return taken.size();
        return i < taken.size() ? taken.get(i) : -1;
    }

    int lost(int h) {
        if (!isHouse(h)) return -1;
        int out = 0;
        for (int p = 0; p < 8; p++) if (come(h, 1 << p, 0) == come(h, 0, 0)) out += 1 << p;
        return out;
    }

    int between(int h, int x, int y) {
        return isHouse(h) && isProgramme(x) && isProgramme(y) ? bits(come(h, x, 0) ^ come(h, y, 0)) : -1;
    }

    int widest(int h, int what) {
        if (!isHouse(h) || what < 0 || what > 2) return -1;
        int[] row = row(h);
        for (int d = 8; d >= 0; d--) {
            for (int x = 0; x < 256; x++) {
                for (int y = x + 1; y < 256; y++) {
                    if (bits(row[x] ^ row[y]) == d) return what == 0 ? d : what == 1 ? x : y;
                }
            }
        }
        throw new IllegalStateException();
    }

    int same(int a, int b) {
        if (!isHouse(a) || !isHouse(b) || a == b) return -1;
        int n = 0;
        for (int x = 0; x < 256; x++) if (come(a, x, 0) == come(b, x, 0)) n++;
        return n;
    }

    int itself(int h) {
        if (!isHouse(h)) return -1;
        for (int x = 1; x < 256; x++) if (come(h, x, 0) == x) return x;
        return -2;
    }

    private List<Integer> times(int[] come, int need, int from, int left) {
        if (left == 0) return need == 0 ? new ArrayList<>() : null;
        for (int t = from; t < 24; t++) {
            List<Integer> rest = times(come, need & ~come[t], t + 1, left - 1);
            if (rest != null) {
                rest.add(0, t);
                return rest;
            }
        }
        return null;
    }

    int times(int h, int i) {
        if (!isHouse(h) || i < -1 || i > 2) return -1;
        int[] come = new int[24];
        for (int t = 0; t < 24; t++) come[t] = come(h, 255, t);
        Person p = now.people.get(h);
        for (int n = 0; n <= 3; n++) {
            List<Integer> found = times(come, p.wanted & ~p.had, 0, n);
            if (found != null) return i == -1 ? n : i < n ? found.get(i) : -1;
        }
        return -2;
    }

    int bestHour(int h, int what) {
        if (!isHouse(h) || what < 0 || what > 1) return -1;
        for (int n = 8; n >= 0; n--) {
            for (int t = 0; t < 24; t++) {
                if (bits(come(h, 255, t) & now.people.get(h).wanted) == n) return what == 0 ? t : n;
            }
        }
        throw new IllegalStateException();
    }

    int breakAt(int h) {
        if (!isHouse(h)) return -1;
        for (int i = 0; i <= h; i++) if (!hears(now, i)) return i;
        return -2;
    }

    int loudest(int n, int what) {
        if (n < 1 || n > 72 || what < 0 || what > 1) return -1;
        if (size() == 0) return -2;
        int best = -1;
        int most = -1;
        for (int h = 0; h < size(); h++) {
            int sum = 0;
            State s = now;
            for (int i = 0; i < n; i++) {
                s = hour(s, false, 0);
                sum += bits(s.heard.get(h));
            }
            if (sum > most) {
                most = sum;
                best = h;
            }
        }
        return what == 0 ? best : most;
    }

    int warm(int n) {
        if (n < 0 || n > 72) return -1;
        int sum = 0;
        for (int x : later(now, n, false, 0).heard) if (x != 0) sum++;
        return sum;
    }

    int lives(int who) {
        for (int h = 0; h < size(); h++) if (now.people.get(h).number == who) return h;
        return -1;
    }

    int warmth(int h) {
        if (!isHouse(h)) return -1;
        State s = now;
        for (int n = 1; n <= 72; n++) {
            s = hour(s, true, text.seed);
            if (s.heard.get(h) != 0) return n;
        }
        return -2;
    }

    int then(int h, int n, int what) {
        if (n < 0 || n > 72 || what < 0 || what > 2 || what < 2 && !isHouse(h)) return -1;
        State s = later(now, n, true, text.seed);
        return what == 0 ? s.heard.get(h) : what == 1 ? bits(s.people.get(h).had) : contentOnes(s);
    }

    int quiet(int h, int n) {
        if (!isHouse(h) || n < 1 || n > 72) return -1;
        int sum = 0;
        State s = now;
        for (int i = 0; i < n; i++) {
            s = hour(s, false, 0);
            if (s.heard.get(h) == 0) sum++;
        }
        return sum;
    }

    int mourn(int n) {
        if (n < 0 || n > 72) return -1;
        int sum = 0;
        for (int g : later(now, n, true, text.seed).grief) if (g > 0) sum++;
        return sum;
    }

    int carryBest(int what) {
        if (what < 0 || what > 1) return -1;
        for (int n = 8; n >= 1; n--) {
            for (int a = 0; a < size(); a++) {
                for (int b = 0; b < size(); b++) {
                    Person p = now.people.get(b);
                    if (a != b && bits(now.heard.get(a) & p.wanted & ~p.had) == n) return what == 0 ? 10 * a + b : n;
                }
            }
        }
        return -2;
    }

    int needs(int h) {
        return isHouse(h) ? now.people.get(h).wanted & ~now.people.get(h).had : -1;
    }

    int changeBest(int what) {
        if (what < 0 || what > 1) return -1;
        int most = contentOnes(later(now, 48, false, 0));
        int best = -2;
        for (int a = 0; a < size(); a++) {
            for (int b = a + 1; b < size(); b++) {
                State s = now.copy();
                swap(s, a, b);
                int n = contentOnes(later(s, 48, false, 0));
                if (n > most) {
                    most = n;
                    best = 10 * a + b;
                }
            }
        }
        return best == -2 ? -2 : what == 0 ? best : most;
    }

    int off(int h) {
        if (!isHouse(h)) return -1;
        int n = 0;
        for (int i = 0; i <= h; i++) if (!now.on.get(i)) n++;
        return n;
    }

    int year(int h, int n, int s) {
        if (!isHouse(h) || n < 0 || n > 72 || s < 1 || s > 20) return -1;
        int sum = 0;
        for (int i = 0; i < s; i++) if (content(later(now, n, true, text.seed + i), h)) sum++;
        return sum;
    }

    int tell(int h, int x) {
        if (!isHouse(h) || !isProgramme(x) || told.size() == 20) return -1;
        told.add(new int[] {h, x});
        return told.size() - 1;
    }

    int forget() {
        int n = told.size();
        told.clear();
        return n;
    }

    private List<Integer> left(int k) {
        List<Integer> left = new ArrayList<>();
        for (int x = 0; x < 256; x++) {
            boolean so = true;
            for (int[] one : told.subList(0, k)) so = so && come(one[0], x, 0) == one[1];
            if (so) left.add(x);
        }
        return left;
    }

    int sent(int k, int what) {
        if (k < 0 || k > told.size() || what < 0 || what > 3) return -1;
        List<Integer> left = left(k);
        if (what == 0) return left.size();
        if (left.isEmpty()) return -2;
        if (what == 1) return left.get(0);
        int out = 0;
        for (int p = 0; p < 8; p++) {
            int bit = 1 << p;
            boolean so = what == 2 ? left.stream().allMatch(x -> (x & bit) != 0) : left.stream().noneMatch(x -> (x & bit) != 0);
            if (so) out |= bit;
        }
        return out;
    }

    int listen(int k) {
        if (k < 0 || k > told.size()) return -1;
        List<Integer> left = left(k);
        if (left.isEmpty()) return -2;
        int best = -2;
        int fewest = 1000;
        for (int h = 0; h < size(); h++) {
            Map<Integer, Integer> classes = new TreeMap<>();
            for (int x : left) classes.merge(come(h, x, 0), 1, Integer::sum);
            int worst = classes.values().stream().max(Integer::compare).get();
            if (worst < fewest) {
                fewest = worst;
                best = h;
            }
        }
        return best;
    }

    boolean hold(int slot) {
        if (slot < 0 || slot > 2) return false;
        slots[slot] = now.copy();
        return true;
    }

    boolean restore(int slot) {
        if (slot < 0 || slot > 2 || slots[slot] == null) return false;
        now = slots[slot].copy();
        past.clear();
        return true;
    }

    int count(int what) {
        switch (what) {
            case 0: return size();
            case 1: return text.sends.size();
            case 2: return now.hour;
            case 3: return now.hour % 24;
            case 4: return sentIn(now);
            case 9: return tape.size();
            case 10: return past.size();
            case 11: return told.size();
            case 12: return (slots[0] == null ? 0 : 1) + (slots[1] == null ? 0 : 1) + (slots[2] == null ? 0 : 1);
            case 13: return now.deaths;
            default: return what < 0 || what > 17 ? -1 : countHouses(what);
        }
    }

    private int countHouses(int what) {
        int sum = 0;
        for (int h = 0; h < size(); h++) {
            Person p = now.people.get(h);
            int bit = 1 << h;
            switch (what) {
                case 5: sum += now.on.get(h) ? bit : 0; break;
                case 6: sum += now.grief.get(h) > 0 ? bit : 0; break;
                case 7: sum += content(now, h) ? bit : 0; break;
                case 8: sum += now.heard.get(h) != 0 ? bit : 0; break;
                case 14: sum += bits(p.had); break;
                case 15: sum += hears(now, h) ? bit : 0; break;
                case 16: sum += bits(now.heard.get(h)); break;
                case 17: sum += p.number != h ? bit : 0; break;
                default: throw new IllegalStateException();
            }
        }
        return sum;
    }
}
