/** Promises 6 to 13: what is, laws, what is done by hand, hours, undo. */
public final class HandTest {
    private static final Check CHECK = new Check();
    private static final String ROW = "house a 3 20;house b 5 33;house c 14 40;sends 2 7;sends 5 129;";

    private static int law(String law, int house) {
        return Check.terrace("house a 3 20;house b 7 33;house c 15 40;hums=" + law + ";").house(house, 8);
    }

    private static void laws() {
        CHECK.due("7", 7, law("7", 0));
        CHECK.due("1+2*3", 7, law("1+2*3", 0));
        CHECK.due("(1+2)*3", 9, law("(1+2)*3", 0));
        CHECK.due("9-3-2", 4, law("9-3-2", 0));
        CHECK.due("40/4/2", 5, law("40/4/2", 0));
        CHECK.due("7/2*2", 6, law("7/2*2", 0));
        CHECK.due("towards 0", 250, law("250 - (1-8)/2 - 3", 0));
        CHECK.due("below", 0, law("1-2", 0));
        CHECK.due("above", 255, law("256", 0));
        CHECK.due("wraps", 255, law("9999*9999*9999*3", 0));
        CHECK.due("wraps below 0", 0, law("9999*9999*9999", 0));
        CHECK.due("by 0", 0, law("5+1/0", 0));
        CHECK.due("by 0, looked at in an if that fails", 0, law("if 1/0<0 then 3 else 4", 0));
        CHECK.due("by 0, right of <", 0, law("if 1<1/door then 3 else 4", 0));
        CHECK.due("by 0, not looked at", 3, law("if 1<2 then 3 else 1/0", 0));
        CHECK.due("by 0, not looked at either", 4, law("if 2<1 then 1/0 else 4", 0));
        CHECK.due("by 0 behind the first that holds", 3, law("if 1<2 then 3 else if 1/0<1 then 5 else 6", 0));
        CHECK.due("alike is not less", 4, law("if 2<2 then 3 else 4", 0));
        CHECK.due("second if", 5, law("if 2<1 then 3 else if 1<2 then 5 else 6", 0));
        CHECK.due("first of two that hold", 3, law("if 1<2 then 3 else if 1<2 then 5 else 6", 0));
        CHECK.due("fourth if", 9, law("if 2<1 then 3 else if 2<1 then 5 else if 2<1 then 6 else if 1<2 then 9 else 8", 0));
        CHECK.due("least int by -1 wraps", 7, law("7 + (0-2048*1024*1024)/(0-1)/(2048*1024*1024) - 1", 0));
        CHECK.due("brackets", 63, law("((((((9999-9936))))))", 0));
        CHECK.due("as much waits as can", 16, law("if 1<1+1*(1+1*(1+1*(1+1*(1+1*(1+1*(1+1*9)))))) then 16 else 6", 0));
        CHECK.due("as much waits as can", 6, law("if 99<1+1*(1+1*(1+1*(1+1*(1+1*(1+1*(1+1*9)))))) then 16 else 6", 0));
        CHECK.due("door", 2, law("door", 2));
        CHECK.due("many", 3, law("many", 2));
        CHECK.due("age", 33, law("age", 1));
        CHECK.due("wants", 4, law("wants", 2));
        CHECK.due("part of HUMS", 0, law("part", 2));
        CHECK.due("parts of HUMS", 0, law("parts", 2));
    }

    private static void lawVars() {
        HeardNext x = Check.terrace("house a 3 20;house b 7 33;hums=hour;dies=day*10+had;turns=parts;sends 0 12;sends 1 2;");
        CHECK.due("hour", 0, x.house(0, 8));
        x.send(9);
        x.hours(1);
        CHECK.due("had one of two", 1, x.house(0, 9));
        CHECK.due("turns of HOUSE 0", 0, x.house(0, 7));
        CHECK.due("turns by what the one ahead heard", 2, x.house(1, 7));
        x.hours(24);
        CHECK.due("hour", 1, x.house(0, 8));
        CHECK.due("day 1, had both", 12, x.house(0, 9));
        x.hours(72);
        x.hours(72);
        x.hours(72);
        CHECK.due("day 10", 100, x.house(0, 9));
        CHECK.due("hour", 1, x.house(1, 8));
        CHECK.due("house(-1, 0)", -1, x.house(-1, 0));
        CHECK.due("house(2, 0)", -1, x.house(2, 0));
        CHECK.due("house(0, -1)", -1, x.house(0, -1));
        CHECK.due("house(0, 10)", -1, x.house(0, 10));
        HeardNext y = Check.terrace("house a 0 0;house b 0 0;turns=9;dies=101;");
        CHECK.due("turns above", 7, y.house(1, 7));
        CHECK.due("dies above", 100, y.house(1, 9));
        HeardNext v = Check.terrace("house a 0 0;house b 0 0;turns=1+part;dies=1+part*9+parts*9;hums=1+part*9+parts*9;keeps=1+part-parts;");
        v.send(255);
        v.hours(1);
        CHECK.due("part of TURNS", 1, v.house(1, 7));
        CHECK.due("part and parts of HUMS", 1, v.house(1, 8));
        CHECK.due("part and parts of DIES", 1, v.house(1, 9));
        CHECK.due("part and parts of KEEPS: 0 is lost, 7 becomes 0", 1, v.passed(1, 129));
        HeardNext z = Check.terrace("house a 0 0;house b 0 0;turns=0-1;dies=0-1;");
        CHECK.due("turns below", 0, z.house(1, 7));
        CHECK.due("dies below", 0, z.house(1, 9));
    }

    private static void passed() {
        HeardNext x = Check.terrace("house a 0 5;house b 0 6;keeps=part-1;turns=door+1;hums=1+door*128;");
        // PARTS 2 .. 7 are kept, turned by one: 3 .. 7 and 0; PART 0 is hummed
        CHECK.due("passed(0, 255)", 249, x.passed(0, 255));
        CHECK.due("passed(0, 128)", 1, x.passed(0, 128));
        CHECK.due("passed(0, 3)", 1, x.passed(0, 3));
        CHECK.due("passed(0, 0)", 1, x.passed(0, 0));
        CHECK.due("passed(1, 4)", 16 + 129, x.passed(1, 4));
        CHECK.due("passed(1, 64)", 1 + 129 - 1, x.passed(1, 64));
        x.turn(1, false);
        CHECK.due("passed, set OFF", 145, x.passed(1, 4));
        CHECK.due("passed(2, 0)", -1, x.passed(2, 0));
        CHECK.due("passed(-1, 0)", -1, x.passed(-1, 0));
        CHECK.due("passed(0, 256)", -1, x.passed(0, 256));
        CHECK.due("passed(0, -1)", -1, x.passed(0, -1));
        // parts: ahead of all loss, for KEEPS and TURNS
        HeardNext y = Check.terrace("house a 0 5;keeps=if parts<3 then 1 else 2-part;turns=parts;");
        CHECK.due("passed(0, 5)", 20, y.passed(0, 5));
        CHECK.due("passed(0, 7)", 24, y.passed(0, 7));
        CHECK.due("passed(0, 255)", 129, y.passed(0, 255));
        HeardNext z = Check.terrace("house a 0 5;keeps=if hour<1 then 0 else 1;");
        CHECK.due("kept by 0", 0, z.passed(0, 5));
        z.hours(1);
        CHECK.due("kept by 1", 5, z.passed(0, 5));
    }

    private static void turnAndSend() {
        HeardNext x = Check.terrace(ROW);
        CHECK.no("turn(0, true)", x.turn(0, true));
        CHECK.no("turn(3, false)", x.turn(3, false));
        CHECK.no("turn(-1, false)", x.turn(-1, false));
        CHECK.due("nothing done", 0, x.count(10));
        CHECK.yes("turn(1, false)", x.turn(1, false));
        CHECK.no("turn(1, false)", x.turn(1, false));
        CHECK.due("ON", 5, x.count(5));
        CHECK.due("house(1, 4)", 0, x.house(1, 4));
        CHECK.due("house(0, 4)", 1, x.house(0, 4));
        x.hours(4);
        CHECK.due("OFF hears nothing", 0, x.house(1, 2));
        CHECK.yes("turn(1, true)", x.turn(1, true));
        CHECK.due("ON", 7, x.count(5));
        CHECK.no("send(256)", x.send(256));
        CHECK.no("send(-1)", x.send(-1));
        CHECK.yes("send(6)", x.send(6));
        CHECK.yes("send(9)", x.send(9));
        CHECK.due("sent", 9, x.count(4));
        x.hours(1);
        CHECK.due("heard", 9, x.house(0, 2));
        CHECK.due("by SENDS again", 129, x.count(4));
        CHECK.yes("send(0)", x.send(0));
        CHECK.due("0 in place of 129", 0, x.count(4));
        x.hours(1);
        CHECK.due("heard", 0, x.house(0, 2));
        CHECK.due("next door, an hour back", 9, x.house(1, 2));
        x.hours(23);
        CHECK.due("next day", 129, x.count(4));
        CHECK.yes("send to one HOUSE", Check.terrace("house a 1 1;").send(1));
        CHECK.no("send to none", Check.terrace("sends 0 1;").send(1));
        CHECK.due("SENDS without HOUSES", 1, Check.terrace("sends 0 1;").count(4));
    }

    private static void carryAndChange() {
        HeardNext x = Check.terrace(ROW);
        x.send(13);
        x.hours(1);
        CHECK.due("had", 1, x.house(0, 3));
        CHECK.due("carry(0, 0)", -1, x.carry(0, 0));
        CHECK.due("carry(0, 3)", -1, x.carry(0, 3));
        CHECK.due("carry(-1, 0)", -1, x.carry(-1, 0));
        CHECK.due("one thing less", 2, x.count(10));
        x.turn(2, false);
        CHECK.due("carry(0, 2)", 13, x.carry(0, 2));
        CHECK.due("heard", 13, x.house(2, 2));
        CHECK.due("had of 14", 12, x.house(2, 3));
        CHECK.due("still heard", 13, x.house(0, 2));
        CHECK.due("carry(1, 2)", 0, x.carry(1, 2));
        CHECK.due("in place of what was heard", 0, x.house(2, 2));
        CHECK.due("still had", 12, x.house(2, 3));
        CHECK.no("change(1, 1)", x.change(1, 1));
        CHECK.no("change(1, 3)", x.change(1, 3));
        CHECK.no("change(-1, 1)", x.change(-1, 1));
        CHECK.yes("change(2, 0)", x.change(2, 0));
        CHECK.due("wanted", 14, x.house(0, 0));
        CHECK.due("age", 40, x.house(0, 1));
        CHECK.due("heard stays", 13, x.house(0, 2));
        CHECK.due("had goes", 12, x.house(0, 3));
        CHECK.due("set stays", 1, x.house(0, 4));
        CHECK.due("who", 2, x.house(0, 6));
        CHECK.due("who", 0, x.house(2, 6));
        CHECK.due("set stays", 0, x.house(2, 4));
        CHECK.due("had goes", 1, x.house(2, 3));
        CHECK.due("moved", 5, x.count(17));
        x.send(2);
        x.hours(1);
        CHECK.due("had by who lives there now", 14, x.house(0, 3));
        HeardNext y = Check.terrace("house a 3 20;house b 5 33;dies=if door<1 then 100 else 0;");
        y.hours(1);
        y.change(0, 1);
        CHECK.due("GRIEF stays in the HOUSE", 6, y.house(0, 5));
        CHECK.due("GRIEF stays in the HOUSE", 0, y.house(1, 5));
    }

    private static void hours() {
        HeardNext x = Check.terrace(ROW);
        CHECK.due("hours(-1)", -1, x.hours(-1));
        CHECK.due("hours(73)", -1, x.hours(73));
        CHECK.due("hours(0)", 0, x.hours(0));
        CHECK.due("nothing done", 0, x.count(10));
        CHECK.due("hours(3)", 3, x.hours(3));
        CHECK.due("heard", 7, x.house(0, 2));
        CHECK.due("heard", 0, x.house(1, 2));
        CHECK.due("hours(1)", 4, x.hours(1));
        CHECK.due("heard", 0, x.house(0, 2));
        CHECK.due("heard", 7, x.house(1, 2));
        CHECK.due("had", 5, x.house(1, 3));
        CHECK.due("hours(1)", 5, x.hours(1));
        CHECK.due("heard", 7, x.house(2, 2));
        CHECK.due("had", 6, x.house(2, 3));
        CHECK.due("hours(72)", 77, x.hours(72));
        CHECK.due("hour of the day", 5, x.count(3));
        // LAWS as the hour begins: had is 0 until the hour has gone by
        HeardNext y = Check.terrace("house a 1 0;house b 1 0;hums=if had<1 then 1 else 8;");
        y.hours(1);
        CHECK.due("hum of the first hour", 1, y.house(1, 2));
        CHECK.due("HOUSE 0 hears no hum", 0, y.house(0, 2));
        y.hours(1);
        CHECK.due("hum of the second hour", 8, y.house(1, 2));
    }

    /** LOT 100 of SEED 7: hour 0: 27 21 93, hour 1: 67 26 10, hour 2: 69 67 91, hour 3: 80 4 80. */
    private static void deaths() {
        HeardNext x = Check.terrace("house a 1 0;house b 1 0;house c 1 0;dies=27;grief 2;seed 7;hums=4;");
        int[] bits = {2, 6, 4, 2};
        int[] so = {1, 2, 2, 3};
        for (int i = 0; i < 4; i++) {
            x.hours(1);
            CHECK.due("in GRIEF, hour " + i, bits[i], x.count(6));
            CHECK.due("DEATHS, hour " + i, so[i], x.count(13));
            CHECK.due("HEAR, hour " + i, 7 & ~bits[i], x.count(15));
        }
        CHECK.due("GRIEF", 2, x.house(1, 5));
        x.hours(1);
        CHECK.due("in GRIEF nothing is heard", 0, x.house(1, 2));
        CHECK.due("GRIEF", 1, x.house(1, 5));
        HeardNext y = Check.terrace("house a 1 0;house b 1 0;house c 1 0;dies=28;grief 2;seed 7;");
        y.hours(1);
        CHECK.due("27 is less than 28", 3, y.count(6));
        HeardNext z = Check.terrace("house a 1 0;house b 1 0;house c 1 0;dies=14;");
        z.hours(1);
        CHECK.due("SEED 0: 95 48 13", 4, z.count(6));
        z.hours(5);
        CHECK.due("SEED 0, hour 3, HOUSE 1: 7; hour 5, HOUSE 0: 10", 7, z.count(6));
    }

    private static void undo() {
        HeardNext x = Check.terrace(ROW + "dies=100;");
        x.turn(1, false);
        x.send(3);
        x.hours(2);
        x.carry(0, 1);
        x.change(0, 2);
        CHECK.due("things", 5, x.count(10));
        CHECK.yes("undo change", x.undo());
        CHECK.due("moved", 0, x.count(17));
        CHECK.due("had", 3, x.house(0, 3));
        CHECK.yes("undo carry", x.undo());
        CHECK.due("deaths", 3, x.count(13));
        CHECK.yes("undo hours", x.undo());
        CHECK.due("hour", 0, x.count(2));
        CHECK.due("deaths", 0, x.count(13));
        CHECK.due("grief", 0, x.count(6));
        CHECK.due("had", 0, x.house(0, 3));
        CHECK.due("sent by hand again", 3, x.count(4));
        CHECK.yes("undo send", x.undo());
        CHECK.due("sent", 0, x.count(4));
        CHECK.yes("undo turn", x.undo());
        CHECK.due("ON", 7, x.count(5));
        CHECK.no("undo nothing", x.undo());
        for (int i = 0; i < 45; i++) x.hours(1);
        CHECK.due("things", 40, x.count(10));
        for (int i = 0; i < 40; i++) CHECK.yes("undo " + i, x.undo());
        CHECK.no("undo the 41st", x.undo());
        CHECK.due("hour", 5, x.count(2));
    }

    public static void main(String[] args) {
        laws();
        lawVars();
        passed();
        turnAndSend();
        carryAndChange();
        hours();
        deaths();
        undo();
        CHECK.end();
    }
}
