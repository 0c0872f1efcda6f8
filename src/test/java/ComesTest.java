/** Promises 14 to 26: what comes of what is sent now. */
public final class ComesTest {
    private static final Check CHECK = new Check();
    /** HOUSE 1 loses PARTS 4 .. 7, HOUSE 2 turns by 2, HOUSE 3 loses PARTS 0 .. 3. */
    private static final String ROW = "house a 3 1;house b 5 2;house c 20 3;house d 48 4;"
        + "keeps=if door<2 then 4-part else if door<3 then 1 else part-3;turns=if door<2 then 0 else if door<3 then 2 else 0;";
    /** One PART an hour: PART p is kept if the hour, by 8, is p. */
    private static final String CLOCK = "house a 3 1;house b 7 2;house c 15 3;house d 6 4;house e 0 5;"
        + "keeps=if door<1 then 1 else if hour-hour/8*8<part then 0 else if part<hour-hour/8*8 then 0 else 1;";

    private static void comes() {
        HeardNext x = Check.terrace(ROW);
        CHECK.due("comes(0, 200)", 200, x.comes(0, 200));
        CHECK.due("comes(1, 255)", 15, x.comes(1, 255));
        CHECK.due("comes(2, 255)", 60, x.comes(2, 255));
        CHECK.due("comes(3, 255)", 48, x.comes(3, 255));
        CHECK.due("comes(3, 4)", 16, x.comes(3, 4));
        CHECK.due("comes(3, 3)", 0, x.comes(3, 3));
        CHECK.due("comes(4, 0)", -1, x.comes(4, 0));
        CHECK.due("comes(-1, 0)", -1, x.comes(-1, 0));
        CHECK.due("comes(0, 256)", -1, x.comes(0, 256));
        CHECK.due("comes(0, -1)", -1, x.comes(0, -1));
        x.turn(1, false);
        CHECK.due("ahead of the set that is OFF", 200, x.comes(0, 200));
        CHECK.due("set OFF", 0, x.comes(1, 255));
        CHECK.due("behind the set that is OFF", 0, x.comes(3, 255));
        x.undo();
        CHECK.due("as it was", 48, x.comes(3, 255));
        x.turn(0, false);
        CHECK.due("OFF", 0, x.comes(0, 200));
        x.undo();
        CHECK.due("as it was", 200, x.comes(0, 200));
        CHECK.due("as it was", 48, x.comes(3, 255));
        x.hold(0);
        x.turn(0, false);
        CHECK.due("OFF", 0, x.comes(0, 255));
        x.restore(0);
        CHECK.due("restored", 255, x.comes(0, 255));
        // HOUSE h hears h HOURS later, LAWS of those hours
        HeardNext y = Check.terrace("house a 0 0;house b 0 0;house c 0 0;hums=if hour<1 then 128 else if hour<2 then 64 else if hour<3 then 32 else 0;keeps=1+day-day;");
        CHECK.due("hour 1", 65, y.comes(1, 1));
        CHECK.due("hours 1 and 2", 97, y.comes(2, 1));
        y.hours(1);
        CHECK.due("hour 2", 33, y.comes(1, 1));
        CHECK.due("hours 2 and 3", 33, y.comes(2, 1));
        y.hours(21);
        CHECK.due("hour 22, to hours 23 and 0", 129, y.comes(2, 1));
        HeardNext d = Check.terrace("house a 0 0;house b 0 0;hums=day;");
        d.hours(23);
        CHECK.due("the day then", 3, d.comes(1, 2));
        // had as now, what is on its way is not in its way
        HeardNext z = Check.terrace("house a 1 0;house b 8 0;turns=had;sends 0 8;");
        CHECK.due("had nothing", 8, z.comes(1, 8));
        z.hours(2);
        CHECK.due("had one", 16, z.comes(1, 8));
        HeardNext g = Check.terrace("house a 1 0;house b 8 0;dies=if door<1 then 0 else 100;grief 1;");
        g.hours(1);
        CHECK.due("GRIEF", 0, g.comes(1, 8));
        g.hours(1);
        CHECK.due("no GRIEF, no DEATH", 8, g.comes(1, 8));
    }

    private static void last() {
        HeardNext x = Check.terrace(ROW);
        CHECK.due("last(255)", 3, x.last(255));
        CHECK.due("last(3)", 2, x.last(3));
        CHECK.due("last(16)", 0, x.last(16));
        CHECK.due("last(0)", -2, x.last(0));
        CHECK.due("last(256)", -1, x.last(256));
        CHECK.due("last(-1)", -1, x.last(-1));
        x.turn(2, false);
        CHECK.due("last(255)", 1, x.last(255));
        x.turn(0, false);
        CHECK.due("last(255)", -2, x.last(255));
        HeardNext y = Check.terrace("house a 0 0;house b 0 0;hums=1;");
        CHECK.due("what is hummed is not of it", 0, y.last(1));
        CHECK.due("more than what is hummed", 1, y.last(3));
        HeardNext z = Check.terrace("house a 0 0;house b 0 0;house c 0 0;hums=if door<2 then 1 else 0;keeps=if door<2 then 1 else part;");
        CHECK.due("nothing of 1 is told from the hum", 0, z.last(1));
    }

    private static void sendFor() {
        HeardNext x = Check.terrace(ROW);
        CHECK.due("sendFor(0)", 3, x.sendFor(0));
        CHECK.due("sendFor(1)", 5, x.sendFor(1));
        CHECK.due("sendFor(2)", 5, x.sendFor(2));
        CHECK.due("sendFor(3)", 12, x.sendFor(3));
        CHECK.due("sendFor(4)", -1, x.sendFor(4));
        CHECK.due("sendFor(-1)", -1, x.sendFor(-1));
        x.turn(2, false);
        CHECK.due("sendFor(3)", -2, x.sendFor(3));
        // four PARTS or more come whole, fewer do not; the hum helps
        HeardNext y = Check.terrace("house a 0 0;house b 3 0;house c 0 0;keeps=parts-3;hums=2;");
        CHECK.due("fewest, then least", 15, y.sendFor(1));
        CHECK.due("nothing WANTED", 0, y.sendFor(2));
        y.turn(2, false);
        CHECK.due("nothing WANTED, set OFF", 0, y.sendFor(2));
        // a lesser one of more PARTS is not taken
        HeardNext z = Check.terrace("house a 0 0;house b 128 0;keeps=if parts<2 then part-5 else 1;turns=if 1<parts then 7 else 1;");
        CHECK.due("64 alone, turned by 1", 64, z.sendFor(1));
        CHECK.due("all eight", 255, Check.terrace("house a 255 0;").sendFor(0));
        HeardNext h = Check.terrace("house a 1 0;sends 0 1;");
        h.hours(1);
        CHECK.due("had already is WANTED still", 1, h.sendFor(0));
    }

    private static void apartAndCode() {
        HeardNext x = Check.terrace(ROW);
        CHECK.due("apart(0)", 256, x.apart(0));
        CHECK.due("apart(1)", 16, x.apart(1));
        CHECK.due("apart(3)", 4, x.apart(3));
        CHECK.due("apart(4)", -1, x.apart(4));
        CHECK.due("apart(-1)", -1, x.apart(-1));
        CHECK.due("code(0, 1)", 256, x.code(0, 1, -1));
        CHECK.due("code(0, 2)", 128, x.code(0, 2, -1));
        CHECK.due("code(0, 3)", 16, x.code(0, 3, -1));
        CHECK.due("code(0, 4)", 16, x.code(0, 4, -1));
        CHECK.due("code(0, 5)", 4, x.code(0, 5, -1));
        CHECK.due("code(0, 4, 0)", 0, x.code(0, 4, 0));
        CHECK.due("code(0, 4, 1)", 15, x.code(0, 4, 1));
        CHECK.due("code(0, 4, 2)", 51, x.code(0, 4, 2));
        CHECK.due("code(0, 4, 3)", 60, x.code(0, 4, 3));
        CHECK.due("code(0, 4, 15)", 255, x.code(0, 4, 15));
        CHECK.due("code(0, 4, 16)", -1, x.code(0, 4, 16));
        CHECK.due("code(0, 4, -2)", -1, x.code(0, 4, -2));
        CHECK.due("code(0, 4, max)", -1, x.code(0, 4, Integer.MAX_VALUE));
        CHECK.due("code(1, 2)", 8, x.code(1, 2, -1));
        CHECK.due("code(1, 2, 7)", 15, x.code(1, 2, 7));
        CHECK.due("code(3, 2)", 2, x.code(3, 2, -1));
        CHECK.due("code(3, 2, 1)", 12, x.code(3, 2, 1));
        CHECK.due("code(3, 3)", 1, x.code(3, 3, -1));
        x.tell(0, 9);
        CHECK.due("one is left", 9, x.sent(1, 1));
        CHECK.due("whatever was asked ahead", 0, x.code(0, 4, 0));
        CHECK.due("code(0, 0)", -1, x.code(0, 0, -1));
        CHECK.due("code(0, 9)", -1, x.code(0, 9, -1));
        CHECK.due("code(0, 8)", 2, x.code(0, 8, -1));
        CHECK.due("code(4, 1)", -1, x.code(4, 1, -1));
        x.turn(0, false);
        CHECK.due("apart, OFF", 1, x.apart(3));
        CHECK.due("code, OFF", 1, x.code(0, 1, -1));
    }

    private static void lostAndBetween() {
        HeardNext x = Check.terrace(ROW);
        CHECK.due("lost(0)", 0, x.lost(0));
        CHECK.due("lost(1)", 240, x.lost(1));
        CHECK.due("lost(2)", 240, x.lost(2));
        CHECK.due("lost(3)", 243, x.lost(3));
        CHECK.due("lost(4)", -1, x.lost(4));
        CHECK.due("lost(-1)", -1, x.lost(-1));
        CHECK.due("between(0, 0, 255)", 8, x.between(0, 0, 255));
        CHECK.due("between(1, 7, 24)", 4, x.between(1, 7, 24));
        CHECK.due("between(3, 3, 240)", 0, x.between(3, 3, 240));
        CHECK.due("between(0, 9, 9)", 0, x.between(0, 9, 9));
        CHECK.due("between(4, 0, 0)", -1, x.between(4, 0, 0));
        CHECK.due("between(0, 256, 0)", -1, x.between(0, 256, 0));
        CHECK.due("between(0, 0, -1)", -1, x.between(0, 0, -1));
        HeardNext y = Check.terrace("house a 0 0;house b 0 0;hums=5;");
        CHECK.due("lost in the hum", 5, y.lost(1));
        y.turn(1, false);
        CHECK.due("lost, OFF", 255, y.lost(1));
    }

    private static void widest() {
        HeardNext x = Check.terrace(ROW);
        int[][] due = {{8, 0, 255}, {4, 0, 15}, {4, 0, 15}, {2, 0, 12}};
        for (int h = 0; h < 4; h++) {
            for (int what = 0; what < 3; what++) CHECK.due("widest(" + h + ", " + what + ")", due[h][what], x.widest(h, what));
        }
        CHECK.due("widest(0, 3)", -1, x.widest(0, 3));
        CHECK.due("widest(0, -1)", -1, x.widest(0, -1));
        CHECK.due("widest(4, 0)", -1, x.widest(4, 0));
        x.turn(0, false);
        CHECK.due("all alike", 0, x.widest(2, 0));
        CHECK.due("all alike", 0, x.widest(2, 1));
        CHECK.due("all alike", 1, x.widest(2, 2));
        HeardNext v = Check.terrace("house a 0 0;house b 0 0;hums=240;");
        CHECK.due("all but the hum", 4, v.widest(1, 0));
        CHECK.due("all but the hum", 15, v.widest(1, 2));
        // 1 and 2 come as they are, all others as 0
        HeardNext y = Check.terrace("house a 0 0;house b 0 0;keeps=if parts<2 then 2-part else 0;turns=0;");
        CHECK.due("1 and 2", 2, y.widest(1, 0));
        CHECK.due("1 and 2", 1, y.widest(1, 1));
        CHECK.due("1 and 2", 2, y.widest(1, 2));
    }

    private static void sameAndItself() {
        HeardNext x = Check.terrace(ROW);
        CHECK.due("same(0, 1)", 16, x.same(0, 1));
        CHECK.due("same(1, 0)", 16, x.same(1, 0));
        CHECK.due("same(1, 2)", 16, x.same(1, 2));
        CHECK.due("same(2, 3)", 64, x.same(2, 3));
        CHECK.due("same(1, 1)", -1, x.same(1, 1));
        CHECK.due("same(1, 4)", -1, x.same(1, 4));
        CHECK.due("same(-1, 0)", -1, x.same(-1, 0));
        CHECK.due("itself(0)", 1, x.itself(0));
        CHECK.due("itself(1)", 1, x.itself(1));
        CHECK.due("itself(2)", -2, x.itself(2));
        CHECK.due("itself(4)", -1, x.itself(4));
        CHECK.due("itself(-1)", -1, x.itself(-1));
        HeardNext y = Check.terrace("house a 0 0;house b 0 0;turns=4;");
        CHECK.due("17 turned by four", 17, y.itself(1));
        HeardNext z = Check.terrace("house a 0 0;house b 0 0;hums=6;");
        CHECK.due("the hum", 6, z.itself(1));
    }

    private static void times() {
        HeardNext x = Check.terrace(CLOCK);
        CHECK.due("PART 1 in hour 1", 2, x.comes(1, 255));
        // WANTED 7 at HOUSE 1: PARTS 0, 1, 2 pass in hours 8, 1, 2, SENT an hour ahead
        CHECK.due("times(1)", 3, x.times(1, -1));
        CHECK.due("times(1, 0)", 0, x.times(1, 0));
        CHECK.due("times(1, 1)", 1, x.times(1, 1));
        CHECK.due("times(1, 2)", 7, x.times(1, 2));
        CHECK.due("times(1, 3)", -1, x.times(1, 3));
        CHECK.due("times(1, -2)", -1, x.times(1, -2));
        CHECK.due("times(0)", 1, x.times(0, -1));
        CHECK.due("times(0, 0)", 0, x.times(0, 0));
        CHECK.due("times(0, 1)", -1, x.times(0, 1));
        // nothing passes both HOUSE 1 and HOUSE 2, as the hours are unlike
        CHECK.due("times(2)", -2, x.times(2, -1));
        CHECK.due("times(2, 0)", -2, x.times(2, 0));
        CHECK.due("times(2, 2)", -2, x.times(2, 2));
        CHECK.due("times(2, 3)", -1, x.times(2, 3));
        CHECK.due("times(4), nothing WANTED", 0, x.times(4, -1));
        CHECK.due("times(4, 0)", -1, x.times(4, 0));
        CHECK.due("times(5)", -1, x.times(5, -1));
        CHECK.due("times(-1)", -1, x.times(-1, -1));
        x.change(1, 3);
        CHECK.due("WANTED 6 at HOUSE 1", 2, x.times(1, -1));
        CHECK.due("WANTED 6 at HOUSE 1", 0, x.times(1, 0));
        CHECK.due("WANTED 6 at HOUSE 1", 1, x.times(1, 1));
        CHECK.due("WANTED 6 at HOUSE 1", -1, x.times(1, 2));
        x.change(1, 3);
        x.send(2);
        x.hours(2);
        CHECK.due("PART 1 was had", 2, x.house(1, 3));
        CHECK.due("PARTS 0 and 2 are left, in hours 8 and 10", 2, x.times(1, -1));
        CHECK.due("PARTS 0 and 2 are left, in hours 8 and 10", 5, x.times(1, 0));
        CHECK.due("PARTS 0 and 2 are left, in hours 8 and 10", 7, x.times(1, 1));
        x.change(1, 2);
        CHECK.due("WANTED 15: not by three", -2, x.times(1, -1));
        HeardNext y = Check.terrace("house a 3 1;house b 7 2;house c 3 1;keeps=if part<1 then 24-hour else if part<2 then hour/23 else if hour<1 then 1 else 0;");
        // PART 0 in all hours, PART 1 in hour 23, PART 2 in hour 0: the last two of the 24
        CHECK.due("two of them", 2, y.times(1, -1));
        CHECK.due("two of them", 22, y.times(1, 0));
        CHECK.due("two of them", 23, y.times(1, 1));
        HeardNext z = Check.terrace("house a 3 1;house b 7 2;keeps=if part<1 then 1-hour else if part<2 then hour/23 else if hour<22 then 0 else 23-hour;");
        CHECK.due("three of them", 3, z.times(1, -1));
        CHECK.due("three of them", 21, z.times(1, 0));
        CHECK.due("three of them", 22, z.times(1, 1));
        CHECK.due("three of them", 23, z.times(1, 2));
        x.turn(0, false);
        CHECK.due("OFF", -2, x.times(3, -1));
        CHECK.due("OFF, nothing WANTED", 0, x.times(4, -1));
    }

    private static void bestHour() {
        HeardNext x = Check.terrace("house a 3 1;house b 7 2;keeps=if door<1 then 1 else hour-part-20;");
        // in hour 23 PARTS 0, 1, 2 are kept, in 22 PARTS 0, 1
        CHECK.due("bestHour(1, 0)", 22, x.bestHour(1, 0));
        CHECK.due("bestHour(1, 1)", 3, x.bestHour(1, 1));
        CHECK.due("bestHour(0, 0)", 0, x.bestHour(0, 0));
        CHECK.due("bestHour(0, 1)", 2, x.bestHour(0, 1));
        CHECK.due("bestHour(0, 2)", -1, x.bestHour(0, 2));
        CHECK.due("bestHour(0, -1)", -1, x.bestHour(0, -1));
        CHECK.due("bestHour(2, 0)", -1, x.bestHour(2, 0));
        x.hours(20);
        CHECK.due("counted from now", 2, x.bestHour(1, 0));
        x.hours(3);
        CHECK.due("to the next day", 23, x.bestHour(1, 0));
        x.turn(1, false);
        CHECK.due("OFF", 0, x.bestHour(1, 0));
        CHECK.due("OFF", 0, x.bestHour(1, 1));
        HeardNext y = Check.terrace("house a 3 1;sends 0 3;");
        y.hours(1);
        CHECK.due("had already is WANTED still", 2, y.bestHour(0, 1));
    }

    private static void breakAt() {
        HeardNext x = Check.terrace(ROW + "dies=if door<2 then 0 else if door<3 then 100 else 0;");
        CHECK.due("breakAt(3)", -2, x.breakAt(3));
        CHECK.due("breakAt(4)", -1, x.breakAt(4));
        CHECK.due("breakAt(-1)", -1, x.breakAt(-1));
        x.turn(3, false);
        CHECK.due("OFF", 3, x.breakAt(3));
        CHECK.due("ahead of it", -2, x.breakAt(2));
        x.hours(1);
        CHECK.due("GRIEF", 2, x.breakAt(3));
        x.turn(0, false);
        CHECK.due("the first", 0, x.breakAt(3));
        CHECK.due("the first", 0, x.breakAt(0));
    }

    public static void main(String[] args) {
        comes();
        last();
        sendFor();
        apartAndCode();
        lostAndBetween();
        widest();
        sameAndItself();
        times();
        bestHour();
        breakAt();
        CHECK.end();
    }
}
