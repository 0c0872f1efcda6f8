import java.util.List;

/** What each promise says of calls with no such thing, that nothing happens then, and that a question changes nothing. */
public final class RefusedTest {
    private static final Check CHECK = new Check();
    private static final int LEAST = Integer.MIN_VALUE;
    private static final int GREATEST = Integer.MAX_VALUE;
    /** The row that is looked at has three HOUSES; 32 and 35 are bits 0 and 3 of an int, once more. */
    private static final int[] NO_HOUSES = {LEAST, -3, -2, -1, 3, 4, 9, 10, 11, 31, 32, 35, 256, GREATEST};
    private static final int[] NO_PROGRAMMES = {LEAST, -256, -2, -1, 256, 257, 511, 512, GREATEST};
    private static final int[] NO_HOURS = {LEAST, -72, -2, -1, 73, 74, 144, GREATEST};
    private static final int[] NO_HOURS_NOR_0 = {LEAST, -1, 0, 73, GREATEST};

    private interface Call {
        long on(HeardNext x, int with);
    }

    private static long bit(boolean so) {
        return so ? 1 : 0;
    }

    /** Something of all sorts has been done, told, held, read and fed. */
    private static HeardNext lived() {
        HeardNext x = Check.terrace("house a 3 20;house b 5 33;house c 14 40;sends 0 7;dies=if door<2 then 0 else 100;hums=door;");
        x.hours(2);
        x.turn(0, false);
        x.hold(2);
        x.carry(1, 0);
        x.change(0, 1);
        x.send(9);
        x.tell(1, 5);
        x.tell(2, 0);
        Check.read(x, "  !");
        Check.feed(x, "seed 1;?");
        return x;
    }

    /** The call answers as due with each of those, and changes nothing. */
    private static void refused(String call, long due, int[] with, Call what) {
        List<Integer> asItWas = Check.seenToTheEnd(lived());
        for (int w : with) {
            HeardNext x = lived();
            CHECK.due(call + " with " + w, due, what.on(x, w));
            CHECK.yes(call + " with " + w + ": nothing happens", asItWas.equals(Check.seenToTheEnd(x)));
        }
    }

    private static void none(String call, int[] with, Call what) {
        refused(call, -1, with, what);
    }

    /** The call has an answer with each of those, and changes nothing. */
    private static void asked(String call, int[] with, Call what) {
        List<Integer> asItWas = Check.seenToTheEnd(lived());
        for (int w : with) {
            HeardNext x = lived();
            CHECK.yes(call + " with " + w + " has an answer", what.on(x, w) != -1);
            CHECK.yes(call + " with " + w + ": nothing happens", asItWas.equals(Check.seenToTheEnd(x)));
        }
    }

    private static void tape() {
        CHECK.says("NONE, and nothing goes, if it has not so many, or n is below 0");
        none("back", new int[] {LEAST, -8, -1, 9, 2000, GREATEST}, (x, n) -> x.back(n));
        asked("back", new int[] {0}, (x, n) -> x.back(n));
        CHECK.says("The byte of the latest read()'s FAULT");
        asked("place", new int[] {0}, (x, n) -> x.place());
    }

    private static void whatIs() {
        CHECK.says("house: NONE for others");
        none("house(h, 0)", NO_HOUSES, (x, h) -> x.house(h, 0));
        none("house(h, 9)", NO_HOUSES, (x, h) -> x.house(h, 9));
        none("house(h, 10)", NO_HOUSES, (x, h) -> x.house(h, 10));
        none("house(1, what)", new int[] {LEAST, -2, -1, 10, 11, 32, GREATEST}, (x, what) -> x.house(1, what));
        asked("house(2, what)", new int[] {0, 1, 2, 3, 4, 5, 6, 7, 8, 9}, (x, what) -> x.house(2, what));
        CHECK.says("passed: NONE: no such ones");
        none("passed(h, 1)", NO_HOUSES, (x, h) -> x.passed(h, 1));
        none("passed(0, p)", NO_PROGRAMMES, (x, p) -> x.passed(0, p));
        asked("passed(2, p)", new int[] {0, 255}, (x, p) -> x.passed(2, p));
        CHECK.says("lives: NONE: no such one");
        none("lives", NO_HOUSES, (x, who) -> x.lives(who));
        asked("lives", new int[] {0, 1, 2}, (x, who) -> x.lives(who));
        CHECK.says("count: NONE for others");
        none("count", new int[] {LEAST, -2, -1, 18, 19, 32, 49, GREATEST}, (x, what) -> x.count(what));
        asked("count", new int[] {0, 1, 2, 3, 4, 5, 6, 7, 8, 9, 10, 11, 12, 13, 14, 15, 16, 17}, (x, what) -> x.count(what));
    }

    private static void done() {
        CHECK.says("turn: false, and nothing happens: it is so, no such HOUSE");
        refused("turn(h, true)", 0, NO_HOUSES, (x, h) -> bit(x.turn(h, true)));
        refused("turn(h, false)", 0, NO_HOUSES, (x, h) -> bit(x.turn(h, false)));
        refused("turn(h, true) of one that is ON", 0, new int[] {1, 2}, (x, h) -> bit(x.turn(h, true)));
        refused("turn(h, false) of one that is OFF", 0, new int[] {0}, (x, h) -> bit(x.turn(h, false)));
        CHECK.says("send: false, and nothing happens: no such PROGRAMME");
        refused("send", 0, NO_PROGRAMMES, (x, p) -> bit(x.send(p)));
        CHECK.says("carry: NONE, and nothing happens: no such ones, one and the same");
        none("carry(h, 1)", NO_HOUSES, (x, h) -> x.carry(h, 1));
        none("carry(1, h)", NO_HOUSES, (x, h) -> x.carry(1, h));
        none("carry(h, h), no such one", NO_HOUSES, (x, h) -> x.carry(h, h));
        none("carry(h, h)", new int[] {0, 1, 2}, (x, h) -> x.carry(h, h));
        CHECK.says("change: false, and nothing happens: no such ones, one and the same");
        refused("change(h, 1)", 0, NO_HOUSES, (x, h) -> bit(x.change(h, 1)));
        refused("change(1, h)", 0, NO_HOUSES, (x, h) -> bit(x.change(1, h)));
        refused("change(h, h), no such one", 0, NO_HOUSES, (x, h) -> bit(x.change(h, h)));
        refused("change(h, h)", 0, new int[] {0, 1, 2}, (x, h) -> bit(x.change(h, h)));
        CHECK.says("hours: 0 is no thing done; NONE, and nothing happens: no such n");
        none("hours", NO_HOURS, (x, n) -> x.hours(n));
        refused("hours", 2, new int[] {0}, (x, n) -> x.hours(n));
        CHECK.says("hold: false: no such one");
        refused("hold", 0, new int[] {LEAST, -1, 3, 4, 32, GREATEST}, (x, slot) -> bit(x.hold(slot)));
        CHECK.says("restore: false, and nothing happens: no such one, nothing is held");
        refused("restore", 0, new int[] {LEAST, -1, 3, 4, 34, GREATEST}, (x, slot) -> bit(x.restore(slot)));
        refused("restore of nothing", 0, new int[] {0, 1}, (x, slot) -> bit(x.restore(slot)));
        CHECK.says("tell: NONE, and nothing happens: no such ones");
        none("tell(h, 1)", NO_HOUSES, (x, h) -> x.tell(h, 1));
        none("tell(1, p)", NO_PROGRAMMES, (x, p) -> x.tell(1, p));
    }

    private static void comes() {
        CHECK.says("III: nothing happens; comes .. breakAt: NONE: no such ones");
        int[] all = {0, 1, 2};
        none("comes(h, 1)", NO_HOUSES, (x, h) -> x.comes(h, 1));
        none("comes(0, p)", NO_PROGRAMMES, (x, p) -> x.comes(0, p));
        asked("comes(2, p)", new int[] {0, 255}, (x, p) -> x.comes(2, p));
        none("last", NO_PROGRAMMES, (x, p) -> x.last(p));
        asked("last", new int[] {0, 255}, (x, p) -> x.last(p));
        none("sendFor", NO_HOUSES, (x, h) -> x.sendFor(h));
        asked("sendFor", all, (x, h) -> x.sendFor(h));
        none("apart", NO_HOUSES, (x, h) -> x.apart(h));
        asked("apart", all, (x, h) -> x.apart(h));
        none("code(h, 1, -1)", NO_HOUSES, (x, h) -> x.code(h, 1, -1));
        none("code(h, 1, 0)", NO_HOUSES, (x, h) -> x.code(h, 1, 0));
        none("code(0, d, -1)", new int[] {LEAST, -1, 0, 9, 10, GREATEST}, (x, d) -> x.code(0, d, -1));
        none("code(0, d, 0)", new int[] {LEAST, -1, 0, 9, 10, GREATEST}, (x, d) -> x.code(0, d, 0));
        asked("code(0, d, 0)", new int[] {1, 8}, (x, d) -> x.code(0, d, 0));
        none("code(0, 1, i)", new int[] {LEAST, -3, -2, 1, 256, GREATEST}, (x, i) -> x.code(0, 1, i));
        none("lost", NO_HOUSES, (x, h) -> x.lost(h));
        asked("lost", all, (x, h) -> x.lost(h));
        none("between(h, 1, 2)", NO_HOUSES, (x, h) -> x.between(h, 1, 2));
        none("between(0, p, 2)", NO_PROGRAMMES, (x, p) -> x.between(0, p, 2));
        none("between(0, 2, p)", NO_PROGRAMMES, (x, p) -> x.between(0, 2, p));
        asked("between(2, p, 255)", new int[] {0, 255}, (x, p) -> x.between(2, p, 255));
        none("widest(h, 0)", NO_HOUSES, (x, h) -> x.widest(h, 0));
        none("widest(0, what)", new int[] {LEAST, -1, 3, 4, GREATEST}, (x, what) -> x.widest(0, what));
        asked("widest(2, what)", all, (x, what) -> x.widest(2, what));
        none("same(h, 1)", NO_HOUSES, (x, h) -> x.same(h, 1));
        none("same(1, h)", NO_HOUSES, (x, h) -> x.same(1, h));
        none("same(h, h): one and the same", all, (x, h) -> x.same(h, h));
        none("same(h, h), no such one", NO_HOUSES, (x, h) -> x.same(h, h));
        asked("same(1, h)", new int[] {0, 2}, (x, h) -> x.same(1, h));
        none("itself", NO_HOUSES, (x, h) -> x.itself(h));
        asked("itself", all, (x, h) -> x.itself(h));
        none("times(h, -1)", NO_HOUSES, (x, h) -> x.times(h, -1));
        none("times(h, 0)", NO_HOUSES, (x, h) -> x.times(h, 0));
        none("times(1, i)", new int[] {LEAST, -3, -2, 3, 4, GREATEST}, (x, i) -> x.times(1, i));
        none("times(2, i), not by three", new int[] {LEAST, -3, -2, 3, 4, GREATEST}, (x, i) -> x.times(2, i));
        none("times(1, i), nothing needed: not so many", all, (x, i) -> x.times(1, i));
        asked("times(2, i), not by three", new int[] {-1, 0, 1, 2}, (x, i) -> x.times(2, i));
        none("bestHour(h, 0)", NO_HOUSES, (x, h) -> x.bestHour(h, 0));
        none("bestHour(0, what)", new int[] {LEAST, -1, 2, 3, GREATEST}, (x, what) -> x.bestHour(0, what));
        asked("bestHour(2, what)", new int[] {0, 1}, (x, what) -> x.bestHour(2, what));
        none("breakAt", NO_HOUSES, (x, h) -> x.breakAt(h));
        asked("breakAt", all, (x, h) -> x.breakAt(h));
    }

    private static void wouldBe() {
        CHECK.says("III: nothing happens; loudest .. year: NONE: no such ones");
        int[] all = {0, 1, 2};
        int[] span = {0, 1, 72};
        none("loudest(n, 0)", NO_HOURS_NOR_0, (x, n) -> x.loudest(n, 0));
        none("loudest(1, what)", new int[] {LEAST, -1, 2, 3, GREATEST}, (x, what) -> x.loudest(1, what));
        asked("loudest(n, 0)", new int[] {1, 72}, (x, n) -> x.loudest(n, 0));
        asked("loudest(n, 1)", new int[] {1, 72}, (x, n) -> x.loudest(n, 1));
        none("warm", NO_HOURS, (x, n) -> x.warm(n));
        asked("warm", span, (x, n) -> x.warm(n));
        none("warmth", NO_HOUSES, (x, h) -> x.warmth(h));
        asked("warmth", all, (x, h) -> x.warmth(h));
        none("then(h, 1, 0)", NO_HOUSES, (x, h) -> x.then(h, 1, 0));
        none("then(h, 1, 1)", NO_HOUSES, (x, h) -> x.then(h, 1, 1));
        asked("then(h, 1, 2): HOUSE not looked at for 2", NO_HOUSES, (x, h) -> x.then(h, 1, 2));
        for (int what = 0; what < 3; what++) {
            int w = what;
            none("then(0, n, " + w + ")", NO_HOURS, (x, n) -> x.then(0, n, w));
            asked("then(2, n, " + w + ")", span, (x, n) -> x.then(2, n, w));
        }
        none("then(0, 1, what)", new int[] {LEAST, -1, 3, 4, GREATEST}, (x, what) -> x.then(0, 1, what));
        none("quiet(h, 1)", NO_HOUSES, (x, h) -> x.quiet(h, 1));
        none("quiet(0, n)", NO_HOURS_NOR_0, (x, n) -> x.quiet(0, n));
        asked("quiet(2, n)", new int[] {1, 72}, (x, n) -> x.quiet(2, n));
        none("mourn", NO_HOURS, (x, n) -> x.mourn(n));
        asked("mourn", span, (x, n) -> x.mourn(n));
        none("carryBest", new int[] {LEAST, -1, 2, 3, GREATEST}, (x, what) -> x.carryBest(what));
        asked("carryBest", new int[] {0, 1}, (x, what) -> x.carryBest(what));
        none("needs", NO_HOUSES, (x, h) -> x.needs(h));
        asked("needs", all, (x, h) -> x.needs(h));
        none("changeBest", new int[] {LEAST, -1, 2, 3, GREATEST}, (x, what) -> x.changeBest(what));
        asked("changeBest", new int[] {0, 1}, (x, what) -> x.changeBest(what));
        none("off", NO_HOUSES, (x, h) -> x.off(h));
        asked("off", all, (x, h) -> x.off(h));
        none("year(h, 1, 1)", NO_HOUSES, (x, h) -> x.year(h, 1, 1));
        none("year(0, n, 1)", NO_HOURS, (x, n) -> x.year(0, n, 1));
        none("year(0, 1, s)", new int[] {LEAST, -1, 0, 21, 22, GREATEST}, (x, s) -> x.year(0, 1, s));
        asked("year(2, n, 1)", span, (x, n) -> x.year(2, n, 1));
        asked("year(2, 72, s)", new int[] {1, 20}, (x, s) -> x.year(2, 72, s));
    }

    private static void told() {
        CHECK.says("IV: sent, listen: NONE: no such ones");
        none("sent(k, 0): two are TOLD", new int[] {LEAST, -1, 3, 20, 21, GREATEST}, (x, k) -> x.sent(k, 0));
        none("sent(0, what)", new int[] {LEAST, -1, 4, 5, GREATEST}, (x, what) -> x.sent(0, what));
        asked("sent(2, what)", new int[] {0, 1, 2, 3}, (x, what) -> x.sent(2, what));
        asked("sent(k, 1)", new int[] {0, 1, 2}, (x, k) -> x.sent(k, 1));
        none("listen", new int[] {LEAST, -1, 3, 20, 21, GREATEST}, (x, k) -> x.listen(k));
        asked("listen", new int[] {0, 1, 2}, (x, k) -> x.listen(k));
    }

    /** Of each call, with arguments that would do, on an object without HOUSES. */
    private static void noHouses(HeardNext x, String how) {
        CHECK.says("no HOUSES: " + how);
        Call[] none = {(y, n) -> y.house(0, 0), (y, n) -> y.passed(0, 0), (y, n) -> y.carry(0, 1), (y, n) -> y.comes(0, 0), (y, n) -> y.sendFor(0),
            (y, n) -> y.apart(0), (y, n) -> y.code(0, 1, -1), (y, n) -> y.lost(0), (y, n) -> y.between(0, 0, 1), (y, n) -> y.widest(0, 0),
            (y, n) -> y.same(0, 1), (y, n) -> y.itself(0), (y, n) -> y.times(0, -1), (y, n) -> y.bestHour(0, 0), (y, n) -> y.breakAt(0),
            (y, n) -> y.lives(0), (y, n) -> y.warmth(0), (y, n) -> y.then(0, 1, 0), (y, n) -> y.then(0, 1, 1), (y, n) -> y.quiet(0, 1),
            (y, n) -> y.needs(0), (y, n) -> y.off(0), (y, n) -> y.year(0, 1, 1), (y, n) -> y.tell(0, 1), (y, n) -> y.sent(1, 0), (y, n) -> y.listen(1)};
        for (int i = 0; i < none.length; i++) CHECK.due("call " + i + " of those that need a HOUSE", -1, none[i].on(x, 0));
        CHECK.no("turn(0, false)", x.turn(0, false));
        CHECK.no("turn(0, true)", x.turn(0, true));
        CHECK.no("send(5)", x.send(5));
        CHECK.no("change(0, 1)", x.change(0, 1));
        CHECK.due("last(255)", -2, x.last(255));
        CHECK.due("loudest(72, 0)", -2, x.loudest(72, 0));
        CHECK.due("loudest(72, 1)", -2, x.loudest(72, 1));
        CHECK.due("warm(72)", 0, x.warm(72));
        CHECK.due("then(0, 72, 2)", 0, x.then(0, 72, 2));
        CHECK.due("mourn(72)", 0, x.mourn(72));
        CHECK.due("carryBest(0)", -2, x.carryBest(0));
        CHECK.due("carryBest(1)", -2, x.carryBest(1));
        CHECK.due("changeBest(0)", -2, x.changeBest(0));
        CHECK.due("changeBest(1)", -2, x.changeBest(1));
        CHECK.due("sent(0, 0)", 256, x.sent(0, 0));
        CHECK.due("listen(0)", -2, x.listen(0));
        CHECK.due("forget()", 0, x.forget());
        CHECK.no("nothing was done", x.undo());
        CHECK.due("hours(72)", 72, x.hours(72));
        CHECK.due("the hour", 72, x.count(2));
        CHECK.yes("the hours are undone", x.undo());
        CHECK.due("the hour", 0, x.count(2));
        CHECK.yes("hold(0)", x.hold(0));
        CHECK.yes("restore(0)", x.restore(0));
    }

    /** Of one HOUSE alone there is no other one. */
    private static void oneHouse() {
        CHECK.says("one HOUSE alone");
        HeardNext x = Check.terrace("house a 5 0;sends 0 5;");
        x.hours(1);
        CHECK.due("carry(0, 1)", -1, x.carry(0, 1));
        CHECK.no("change(0, 1)", x.change(0, 1));
        CHECK.due("same(0, 1)", -1, x.same(0, 1));
        CHECK.due("carryBest(0)", -2, x.carryBest(0));
        CHECK.due("changeBest(0)", -2, x.changeBest(0));
        CHECK.due("last(1)", 0, x.last(1));
        CHECK.due("loudest(72, 0)", 0, x.loudest(72, 0));
        CHECK.due("listen(0)", 0, x.listen(0));
    }

    /** All limits of the text at once: ten HOUSES, the last of which is 9. */
    private static void tenHouses() {
        CHECK.says("HOUSES, 10 at most: the last one is 9");
        HeardNext x = Check.terrace(Check.houses(10, "128 50") + "sends 0 128;");
        CHECK.due("comes(9, 128)", 128, x.comes(9, 128));
        CHECK.due("comes(10, 128)", -1, x.comes(10, 128));
        CHECK.due("last(128)", 9, x.last(128));
        CHECK.due("warmth(9)", 10, x.warmth(9));
        CHECK.due("then(9, 10, 0)", 128, x.then(9, 10, 0));
        CHECK.due("same(8, 9)", 256, x.same(8, 9));
        CHECK.due("breakAt(9)", -2, x.breakAt(9));
        CHECK.due("sets ON", 1023, x.count(5));
        CHECK.yes("turn(9, false)", x.turn(9, false));
        CHECK.due("off(9)", 1, x.off(9));
        CHECK.due("breakAt(9)", 9, x.breakAt(9));
        CHECK.due("sets ON", 511, x.count(5));
        CHECK.no("turn(10, false)", x.turn(10, false));
        x.hours(1);
        CHECK.due("carry(0, 9)", 128, x.carry(0, 9));
        CHECK.due("heard something", 513, x.count(8));
        CHECK.due("had all", 513, x.count(7));
        CHECK.due("carry(9, 8)", 128, x.carry(9, 8));
        CHECK.due("carry(9, 10)", -1, x.carry(9, 10));
        CHECK.yes("change(9, 0)", x.change(9, 0));
        CHECK.due("another one", 513, x.count(17));
        CHECK.due("lives(9)", 0, x.lives(9));
        CHECK.due("lives(10)", -1, x.lives(10));
        CHECK.due("tell(9, 0)", 0, x.tell(9, 0));
        CHECK.due("all but 9 had it: from 0 to the first other one", 1, x.carryBest(0));
    }

    /** What is answered behind the 512th call is free; that it is answered is not. */
    private static void manyCalls() {
        CHECK.says("No call may ever throw");
        HeardNext x = lived();
        for (int i = 0; i < 3000; i++) {
            x.hours(72);
            x.send(i & 255);
            x.hold(i % 4);
            x.tell(i % 3, i & 255);
            x.feed(i, i, i, i, i);
            x.change(i % 3, (i + 1) % 3);
        }
        CHECK.due("TOLD", 20, x.count(11));
        CHECK.due("things", 40, x.count(10));
    }

    public static void main(String[] args) {
        tape();
        whatIs();
        done();
        comes();
        wouldBe();
        told();
        noHouses(new HeardNext(), "a new object");
        noHouses(Check.terrace("sends 0 7;keeps=0;hums=9;dies=100;"), "a text that tells none");
        HeardNext emptied = Check.terrace("house a 1 1;house b 1 1;");
        emptied.read();
        noHouses(emptied, "the empty text behind another one");
        oneHouse();
        tenHouses();
        manyCalls();
        CHECK.end();
    }
}
