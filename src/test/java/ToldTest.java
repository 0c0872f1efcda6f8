/** Promises 39 to 45: what is told, what was sent by it, slots, counts. */
public final class ToldTest {
    private static final Check CHECK = new Check();
    /** HOUSE 1 loses PARTS 4 .. 7, HOUSE 2 PARTS 0 and 1 as well. */
    private static final String ROW = "house a 3 20;house b 5 33;house c 14 40;keeps=if door<2 then 4-part else part-1;";

    private static void tell() {
        HeardNext x = Check.terrace(ROW);
        CHECK.due("tell(3, 0)", -1, x.tell(3, 0));
        CHECK.due("tell(-1, 0)", -1, x.tell(-1, 0));
        CHECK.due("tell(0, 256)", -1, x.tell(0, 256));
        CHECK.due("tell(0, -1)", -1, x.tell(0, -1));
        CHECK.due("told", 0, x.count(11));
        for (int i = 0; i < 20; i++) CHECK.due("tell", i, x.tell(1, 5));
        CHECK.due("a 21st", -1, x.tell(1, 5));
        CHECK.due("told", 20, x.count(11));
        CHECK.due("not a thing done", 0, x.count(10));
        CHECK.due("all twenty", 16, x.sent(20, 0));
        CHECK.due("forget()", 20, x.forget());
        CHECK.due("forget()", 0, x.forget());
        CHECK.due("told", 0, x.count(11));
        CHECK.due("tell", 0, x.tell(1, 5));
    }

    private static void sent() {
        HeardNext x = Check.terrace(ROW);
        CHECK.due("all", 256, x.sent(0, 0));
        CHECK.due("least", 0, x.sent(0, 1));
        CHECK.due("in all", 0, x.sent(0, 2));
        CHECK.due("in none", 0, x.sent(0, 3));
        CHECK.due("sent(1, 0)", -1, x.sent(1, 0));
        CHECK.due("sent(-1, 0)", -1, x.sent(-1, 0));
        CHECK.due("sent(0, 4)", -1, x.sent(0, 4));
        CHECK.due("sent(0, -1)", -1, x.sent(0, -1));
        x.tell(2, 8);
        CHECK.due("PART 3, no PART 2", 64, x.sent(1, 0));
        CHECK.due("least", 8, x.sent(1, 1));
        CHECK.due("in all", 8, x.sent(1, 2));
        CHECK.due("in none", 4, x.sent(1, 3));
        x.tell(1, 10);
        CHECK.due("PARTS 0, 1 too", 16, x.sent(2, 0));
        CHECK.due("least", 10, x.sent(2, 1));
        CHECK.due("in all", 10, x.sent(2, 2));
        CHECK.due("in none", 5, x.sent(2, 3));
        CHECK.due("the first alone", 64, x.sent(1, 0));
        HeardNext y = Check.terrace(ROW);
        y.tell(0, 129);
        CHECK.due("one is left, in all", 129, y.sent(1, 2));
        CHECK.due("one is left, in none", 126, y.sent(1, 3));
        x.tell(1, 11);
        CHECK.due("none is left", 0, x.sent(3, 0));
        CHECK.due("none is left", -2, x.sent(3, 1));
        CHECK.due("none is left", -2, x.sent(3, 2));
        CHECK.due("none is left", -2, x.sent(3, 3));
        CHECK.due("none is left, no such what", -1, x.sent(3, 4));
        x.turn(0, false);
        CHECK.due("by sets as they HEAR", 0, x.sent(1, 0));
        x.undo();
        CHECK.due("what is TOLD is not undone", 3, x.count(11));
        CHECK.due("no HOUSES", 256, new HeardNext().sent(0, 0));
    }

    private static void listen() {
        HeardNext x = Check.terrace(ROW);
        CHECK.due("listen(0)", 0, x.listen(0));
        CHECK.due("listen(1)", -1, x.listen(1));
        CHECK.due("listen(-1)", -1, x.listen(-1));
        x.tell(0, 9);
        CHECK.due("one is left", 0, x.listen(1));
        x.tell(0, 8);
        CHECK.due("none is left", -2, x.listen(2));
        CHECK.due("listen(1)", 0, x.listen(1));
        x.turn(0, false);
        CHECK.due("all alike: the first", 0, x.listen(0));
        HeardNext y = new HeardNext();
        CHECK.due("no HOUSES", -2, y.listen(0));
        CHECK.due("no HOUSES, no such k", -1, y.listen(1));
    }

    private static void slots() {
        HeardNext x = Check.terrace(ROW + "dies=100;");
        CHECK.no("hold(-1)", x.hold(-1));
        CHECK.no("hold(3)", x.hold(3));
        CHECK.no("restore(0)", x.restore(0));
        x.send(7);
        x.turn(2, false);
        CHECK.yes("hold(0)", x.hold(0));
        x.hours(3);
        x.change(0, 1);
        x.turn(0, false);
        CHECK.yes("hold(2)", x.hold(2));
        CHECK.due("slots", 2, x.count(12));
        CHECK.due("things", 5, x.count(10));
        x.tell(1, 1);
        x.feed(0x20202020, 0x20202020, 0x20202020, 0x20202020, 0x20202020);
        CHECK.yes("restore(0)", x.restore(0));
        CHECK.due("things", 0, x.count(10));
        CHECK.no("undo", x.undo());
        CHECK.due("hour", 0, x.count(2));
        CHECK.due("sent", 7, x.count(4));
        CHECK.due("ON", 3, x.count(5));
        CHECK.due("deaths", 0, x.count(13));
        CHECK.due("moved", 0, x.count(17));
        CHECK.due("what is TOLD stays", 1, x.count(11));
        CHECK.due("the tape stays", 20, x.count(9));
        x.hours(1);
        CHECK.due("gone on", 7, x.house(0, 2));
        CHECK.yes("restore(2)", x.restore(2));
        CHECK.due("hour", 3, x.count(2));
        CHECK.due("ON", 2, x.count(5));
        CHECK.due("moved", 3, x.count(17));
        CHECK.yes("restore(0) again", x.restore(0));
        CHECK.due("hour", 0, x.count(2));
        CHECK.no("restore(1)", x.restore(1));
        CHECK.no("restore(-1)", x.restore(-1));
        CHECK.no("restore(3)", x.restore(3));
        CHECK.due("slots", 2, x.count(12));
        CHECK.yes("hold(0) anew", (x.hours(5) == 5) && x.hold(0));
        x.hours(5);
        x.restore(0);
        CHECK.due("hour", 5, x.count(2));
        HeardNext y = new HeardNext();
        CHECK.yes("hold without HOUSES", y.hold(1));
        y.hours(4);
        CHECK.yes("restore without HOUSES", y.restore(1));
        CHECK.due("hour", 0, y.count(2));
    }

    private static void count() {
        HeardNext x = Check.terrace("house a 3 20;house b 5 33;house c 8 40;sends 1 7;sends 2 1;"
            + "dies=if door<2 then 0 else 100;grief 3;");
        x.hours(26);
        x.turn(0, false);
        x.change(1, 2);
        x.hold(1);
        x.tell(1, 1);
        x.feed(0x20202020, 0x20202020, 0x20202020, 0x20202020, 0x20202020);
        // hour 25 sent 7 to HOUSE 0; HOUSE 2 died in hours 0, 4, 8, 12, 16, 20, 24
        int[] due = {3, 2, 26, 2, 1, 6, 4, 5, 1, 20, 3, 1, 1, 7, 4, 2, 3, 6};
        for (int what = 0; what < due.length; what++) CHECK.due("count(" + what + ")", due[what], x.count(what));
        CHECK.due("count(18)", -1, x.count(18));
        CHECK.due("count(-1)", -1, x.count(-1));
    }

    public static void main(String[] args) {
        tell();
        sent();
        listen();
        slots();
        count();
        CHECK.end();
    }
}
