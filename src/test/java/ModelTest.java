import java.util.Random;

/** Random runs of calls, answered by the class and by the plain model; the seeds are fixed, so every run is the same. */
public final class ModelTest {
    private static final Check CHECK = new Check();
    private static final String[] VARS = {"door", "hour", "day", "part", "wants", "age", "parts", "many", "had"};
    private static final String[] BITS = {"house", "sends", "keeps", "turns", "hums", "dies", "grief", "seed", "if", "then",
        "else", "door", "part", "had", ";", ";", "=", "+", "-", "*", "/", "<", "(", ")", "7", "255", "9999", "12345", "abcdefgh",
        "abcdefghi", "x", ".", "!", "A", "\u00e9", "\t", "\n", "\r", "\f", " ", "0", "00", "25"};

    private final Random random;
    private final StringBuilder trace = new StringBuilder();
    private final HeardNext x = new HeardNext();
    private final Model m = new Model();

    private ModelTest(long seed) {
        random = new Random(seed);
    }

    private int below(int n) {
        return random.nextInt(n);
    }

    private String unit(int depth) {
        int k = below(10);
        if (k < 4) return VARS[below(VARS.length)];
        if (k < 8 || depth > 2) return "" + (below(3) == 0 ? below(10000) : below(9));
        return "(" + sum(depth + 1) + ")";
    }

    private String product(int depth) {
        StringBuilder s = new StringBuilder(unit(depth));
        while (below(3) == 0) s.append(below(2) == 0 ? "*" : "/").append(unit(depth));
        return s.toString();
    }

    private String sum(int depth) {
        StringBuilder s = new StringBuilder(product(depth));
        while (below(3) == 0) s.append(below(2) == 0 ? "+ " : " -").append(product(depth));
        return s.toString();
    }

    private String law(boolean clean) {
        StringBuilder s = new StringBuilder("= ");
        int ifs = below(3) == 0 ? below(clean ? 5 : 6) : below(2);
        for (int i = 0; i < ifs; i++) s.append("if ").append(sum(0)).append("<").append(sum(0)).append(" then ").append(sum(0)).append(" else ");
        return s.append(sum(0)).append(";").toString();
    }

    private String tame(String word) {
        switch (word) {
            case "keeps": return new String[] {"= 1;", "= 7 - part;", "= if part < 4 then 1 else day;", "= part + hour - 3;", "= parts - had;",
                "= if had < 2 then wants - part else part;", "= if age < 40 then 1 else part;",
                "= if part < hour / 3 then 0 else if hour / 3 < part - 2 then 0 else 1;", "= 1 - (hour - part * 3) * (hour - part * 3);"}[below(9)];
            case "turns": return new String[] {"= 0;", "= door;", "= had;", "= age / 20;", "= hour - day;", "= parts;"}[below(6)];
            case "hums": return new String[] {"= 0;", "= hour * 9;", "= if had < 1 then door else 0;", "= if hour < 3 then 40 else 0;"}[below(4)];
            default: return new String[] {"= age;", "= 5;", "= if had < wants then 10 else 50;", "= hour;", "= 100 / day;"}[below(5)];
        }
    }

    /** Now and then one in which a number, a name or a count is too much, if it may be so. */
    private String text(boolean clean) {
        StringBuilder s = new StringBuilder();
        int houses = clean ? 1 + below(10) : below(20) == 0 ? 11 : below(11);
        for (int i = 0; i < houses; i++) {
            s.append("house ").append((char) ('a' + (!clean && below(100) == 0 ? 0 : i))).append(' ').append(!clean && below(100) == 0 ? 256 : below(256) & below(256))
                .append(' ').append(!clean && below(100) == 0 ? 100 : below(100)).append(';');
        }
        int sends = !clean && below(20) == 0 ? 9 : below(9);
        for (int i = 0; i < sends; i++) {
            s.append("sends ").append(!clean && below(60) == 0 ? 24 : below(24)).append(' ').append(!clean && below(60) == 0 ? 256 : below(256)).append(";\n");
        }
        for (String word : new String[] {"keeps", "turns", "hums", "dies"}) {
            if (below(3) > 0) s.append(word).append(below(3) == 0 ? law(clean) : tame(word));
        }
        if (below(2) == 0) s.append("grief ").append(!clean && below(20) == 0 ? 0 : 1 + below(12)).append(';');
        if (below(2) == 0) s.append("seed ").append(below(10000)).append(';');
        return s.toString();
    }

    private String spoilt(String text) {
        StringBuilder s = new StringBuilder(text);
        int times = 1 + below(3);
        for (int i = 0; i < times; i++) {
            int at = below(s.length() + 1);
            switch (below(4)) {
                case 0: s.insert(at, BITS[below(BITS.length)]); break;
                case 1: s.insert(at, " " + BITS[below(BITS.length)] + " "); break;
                case 2: s.delete(at, Math.min(s.length(), at + 1 + below(4))); break;
                default: s.setLength(at);
            }
        }
        return s.toString();
    }

    private String longText() {
        StringBuilder s = new StringBuilder();
        int most = 380 + below(40);
        s.append("hums=");
        for (int i = 2; i < most; i += 2) s.append("1").append(i + 2 < most ? "+" : "");
        return below(2) == 0 ? s.append(";").toString() : below(2) == 0 ? s.append(";grief 2;seed 3;grief 4;").toString() : s.append(" !").toString();
    }

    private void same(String call, long want, long got) {
        trace.append(call).append(" = ").append(want).append('\n');
        if (want != got) {
            CHECK.due(call, want, got);
            System.out.println(trace);
            CHECK.end();
        }
    }

    private void readText(String text) {
        trace.append("text: ").append(text).append('\n');
        int[][] all = Check.words(text);
        for (int[] w : all) {
            same("feed", m.feed(w), x.feed(w[0], w[1], w[2], w[3], w[4]));
        }
        int rest = all.length * 20 - text.length();
        same("back(" + rest + ")", m.back(rest), x.back(rest));
        same("read()", m.read(), x.read());
        same("place()", m.place(), x.place());
    }

    private int house() {
        return below(12) == 0 ? below(13) - 1 : below(Math.max(1, m.count(0)));
    }

    private int programme() {
        switch (below(12)) {
            case 0: return new int[] {-1, 256, 1000, Integer.MIN_VALUE, Integer.MAX_VALUE}[below(5)];
            case 1: return 0;
            case 2: return 255;
            case 3: return 1 << below(8);
            default: return below(256);
        }
    }

    private int span() {
        return below(15) == 0 ? new int[] {-1, 0, 73, 72, Integer.MAX_VALUE}[below(5)] : below(3) == 0 ? below(73) : below(8);
    }

    private void doOne() {
        int h = house();
        int g = house();
        int p = programme();
        int n = span();
        switch (below(8)) {
            case 0: { boolean on = below(3) > 0; same("turn(" + h + "," + on + ")", m.turn(h, on) ? 1 : 0, x.turn(h, on) ? 1 : 0); break; }
            case 1: same("send(" + p + ")", m.send(p) ? 1 : 0, x.send(p) ? 1 : 0); break;
            case 2: same("carry(" + h + "," + g + ")", m.carry(h, g), x.carry(h, g)); break;
            case 3: same("change(" + h + "," + g + ")", m.change(h, g) ? 1 : 0, x.change(h, g) ? 1 : 0); break;
            case 4:
            case 5: same("hours(" + n + ")", m.hours(n), x.hours(n)); break;
            case 6: if (below(2) == 0) same("undo()", m.undo() ? 1 : 0, x.undo() ? 1 : 0); break;
            default:
                int slot = below(5) - 1;
                if (below(2) == 0) same("hold(" + slot + ")", m.hold(slot) ? 1 : 0, x.hold(slot) ? 1 : 0);
                else if (below(3) == 0) same("restore(" + slot + ")", m.restore(slot) ? 1 : 0, x.restore(slot) ? 1 : 0);
        }
    }

    private void askComes() {
        int h = house();
        int g = house();
        int p = programme();
        int q = programme();
        int what = below(4) - (below(10) == 0 ? 1 : 0);
        switch (below(14)) {
            case 0: same("comes(" + h + "," + p + ")", m.comes(h, p), x.comes(h, p)); break;
            case 1: same("last(" + p + ")", m.last(p), x.last(p)); break;
            case 2: same("sendFor(" + h + ")", m.sendFor(h), x.sendFor(h)); break;
            case 3: same("apart(" + h + ")", m.apart(h), x.apart(h)); break;
            case 4: {
                int d = below(10);
                int i = below(3) == 0 ? -1 : below(10) - 2;
                same("code(" + h + "," + d + "," + i + ")", m.code(h, d, i), x.code(h, d, i));
                break;
            }
            case 5: same("lost(" + h + ")", m.lost(h), x.lost(h)); break;
            case 6: same("between(" + h + "," + p + "," + q + ")", m.between(h, p, q), x.between(h, p, q)); break;
            case 7: same("widest(" + h + "," + what + ")", m.widest(h, what), x.widest(h, what)); break;
            case 8: same("same(" + h + "," + g + ")", m.same(h, g), x.same(h, g)); break;
            case 9: same("itself(" + h + ")", m.itself(h), x.itself(h)); break;
            case 10: same("times(" + h + "," + (what - 1) + ")", m.times(h, what - 1), x.times(h, what - 1)); break;
            case 11: same("bestHour(" + h + "," + what + ")", m.bestHour(h, what), x.bestHour(h, what)); break;
            case 12: same("breakAt(" + h + ")", m.breakAt(h), x.breakAt(h)); break;
            default: same("passed(" + h + "," + p + ")", m.passed(h, p), x.passed(h, p));
        }
    }

    private void askLater() {
        int h = house();
        int n = span();
        int what = below(4) - 1;
        switch (below(12)) {
            case 0: same("loudest(" + n + "," + what + ")", m.loudest(n, what), x.loudest(n, what)); break;
            case 1: same("warm(" + n + ")", m.warm(n), x.warm(n)); break;
            case 2: same("lives(" + h + ")", m.lives(h), x.lives(h)); break;
            case 3: same("warmth(" + h + ")", m.warmth(h), x.warmth(h)); break;
            case 4: same("then(" + h + "," + n + "," + what + ")", m.then(h, n, what), x.then(h, n, what)); break;
            case 5: same("quiet(" + h + "," + n + ")", m.quiet(h, n), x.quiet(h, n)); break;
            case 6: same("mourn(" + n + ")", m.mourn(n), x.mourn(n)); break;
            case 7: same("carryBest(" + what + ")", m.carryBest(what), x.carryBest(what)); break;
            case 8: same("needs(" + h + ")", m.needs(h), x.needs(h)); break;
            case 9: if (below(6) == 0) same("changeBest(" + what + ")", m.changeBest(what), x.changeBest(what)); break;
            case 10: same("off(" + h + ")", m.off(h), x.off(h)); break;
            default: {
                int s = below(6) == 0 ? below(23) - 1 : 1 + below(3);
                same("year(" + h + "," + n + "," + s + ")", m.year(h, n, s), x.year(h, n, s));
            }
        }
    }

    private void askTold() {
        int h = house();
        int p = programme();
        int k = below(m.count(11) + 2) - (below(15) == 0 ? 1 : 0);
        int what = below(5);
        switch (below(6)) {
            case 0:
                if (below(4) > 0 && m.comes(h, 0) >= 0) p = m.comes(h, below(256));
                same("tell(" + h + "," + p + ")", m.tell(h, p), x.tell(h, p));
                break;
            case 1: if (below(6) == 0) same("forget()", m.forget(), x.forget()); break;
            case 2:
            case 3: same("sent(" + k + "," + what + ")", m.sent(k, what), x.sent(k, what)); break;
            case 4: same("listen(" + k + ")", m.listen(k), x.listen(k)); break;
            default: same("house(" + h + "," + what * 2 + ")", m.house(h, what * 2), x.house(h, what * 2));
        }
    }

    private void lookAtAll() {
        for (int i = -1; i < 19; i++) same("count(" + i + ")", m.count(i), x.count(i));
        for (int h = 0; h < m.count(0); h++) {
            for (int i = -1; i < 11; i++) same("house(" + h + "," + i + ")", m.house(h, i), x.house(h, i));
        }
    }

    private void live(int calls) {
        if (below(20) > 0) readText(text(true));
        for (int i = 0; i < calls; i++) {
            switch (below(8)) {
                case 0:
                case 1: doOne(); break;
                case 2:
                case 3: askComes(); break;
                case 4:
                case 5: askLater(); break;
                case 6: askTold(); break;
                default: if (below(30) == 0) readText(below(2) == 0 ? text(true) : spoilt(text(true)));
            }
            if (below(25) == 0) lookAtAll();
        }
        lookAtAll();
    }

    private void readMany() {
        for (int i = 0; i < 12; i++) {
            readText(below(4) == 0 ? longText() : below(3) == 0 ? text(false) : spoilt(text(false)));
        }
        lookAtAll();
    }

    public static void main(String[] args) {
        int runs = args.length > 0 ? Integer.parseInt(args[0]) : 300;
        int from = args.length > 1 ? Integer.parseInt(args[1]) : 0;
        for (int i = from; i < from + runs; i++) {
            new ModelTest(i).live(90);
            new ModelTest(1000000 + i).readMany();
        }
        CHECK.end();
    }
}
