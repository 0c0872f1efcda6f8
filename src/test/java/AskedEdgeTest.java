/** Parts III and IV of the Terms, promises 14 to 38, 41 and 42, sentence by sentence, at the edges that each names. */
public final class AskedEdgeTest {
    private static final Check CHECK = new Check();

    private static String hour(String law, int at) {
        return "if hour<" + at + " then 0 else if " + at + "<hour then 0 else " + law;
    }

    private static void comes() {
        CHECK.says("what HOUSE h hears of a PROGRAMME x that is SENT in this hour, h HOURS later, LAWS of the hours then");
        HeardNext x = Check.terrace(Check.houses(10, "0 0") + "turns=if hour<10 then 1 else 0;keeps=1;");
        for (int h = 0; h < 10; h++) CHECK.due("hour 0 to HOUSE " + h, 1 << h % 8, x.comes(h, 1));
        x.hours(5);
        for (int h = 0; h < 10; h++) CHECK.due("hour 5 to HOUSE " + h, 1 << Math.min(h, 4), x.comes(h, 1));
        x.hours(18);
        for (int h = 0; h < 10; h++) CHECK.due("hour 23 to HOUSE " + h, 1 << h % 8, x.comes(h, 1));
        HeardNext y = Check.terrace(Check.houses(4, "0 0") + "hums=day*door;keeps=0;");
        y.hours(22);
        int[] due = {0, 0, 2, 3};
        for (int h = 0; h < 4; h++) CHECK.due("hours 22, 23, 24, 25", due[h], y.comes(h, 0));
        CHECK.says("by sets as they HEAR now (0: a set from 0 to h does not HEAR)");
        for (int off = 0; off < 4; off++) {
            HeardNext z = Check.terrace(Check.houses(4, "0 0") + "hums=64;");
            z.turn(off, false);
            for (int h = 0; h < 4; h++) CHECK.due("OFF " + off + ", to " + h, h >= off ? 0 : h == 0 ? 1 : 65, z.comes(h, 1));
        }
        HeardNext g = Check.terrace(Check.houses(3, "0 0") + "dies=if door<1 then 0 else if door<2 then 100 else 0;grief 1;");
        g.hours(1);
        CHECK.due("GRIEF for just this hour", 0, g.comes(2, 1));
        CHECK.due("ahead of it", 1, g.comes(0, 1));
        g.hours(1);
        CHECK.due("no DEATHS that may yet be", 1, g.comes(2, 1));
        CHECK.says("nothing else in its way");
        HeardNext w = Check.terrace("house a 0 0;house b 0 0;sends 0 6;");
        w.hours(1);
        w.send(9);
        CHECK.due("not what is SENT, nor what is on its way", 1, w.comes(1, 1));
        CHECK.says("had as now");
        HeardNext v = Check.terrace("house a 0 0;house b 1 0;house c 1 0;turns=had;");
        v.send(1);
        CHECK.due("nobody had it", 1, v.comes(2, 1));
        v.hours(2);
        CHECK.due("HOUSE 1 had it", 2, v.comes(2, 1));
        v.hours(1);
        CHECK.due("HOUSE 2 had it, too", 4, v.comes(2, 1));
        v.carry(1, 2);
        v.change(0, 1);
        CHECK.due("who had it lives in 0 now", 1, v.comes(1, 1));
    }

    private static void last() {
        CHECK.says("LAST of x: the HOUSE with the greatest number to which PARTS of it come (COMES not as for 0); -2: to none");
        HeardNext x = Check.terrace(Check.houses(10, "0 0") + "keeps=9-door-part;");
        for (int p = 0; p < 8; p++) CHECK.due("PART " + p, 8 - p, x.last(1 << p));
        CHECK.due("all", 8, x.last(255));
        CHECK.due("nothing is SENT", -2, x.last(0));
        x.turn(0, false);
        CHECK.due("HOUSE 0 is OFF", -2, x.last(255));
        HeardNext y = Check.terrace("house a 0 0;house b 0 0;house c 0 0;hums=if door<2 then 255 else 0;");
        CHECK.due("the hum of HOUSE 1 hides all from there on", 0, y.last(255));
        HeardNext z = Check.terrace("house a 0 0;house b 0 0;house c 0 0;keeps=if door<2 then 1 else parts-1;hums=if door<2 then 1 else 0;");
        // HOUSE 1 hears 1 of 0 and 3 of 2; HOUSE 2 keeps nothing of one PART, all of two
        CHECK.due("by how many there are", 2, z.last(2));
        HeardNext w = Check.terrace("house a 0 0;house b 0 0;turns=0;keeps=if parts<2 then 1 else 0;");
        CHECK.due("two PARTS are lost", 0, w.last(3));
        CHECK.due("one is not", 1, w.last(2));
        // of 0 the hum goes on, of 1 it does not: what is lacking is not as for 0, either
        HeardNext v = Check.terrace("house a 0 0;house b 0 0;house c 0 0;hums=if door<2 then 2 else 0;keeps=if door<2 then 1 else 2-parts;");
        CHECK.due("2 of nothing, nothing of 1", 2, v.last(1));
    }

    private static void sendFor() {
        CHECK.says("the PROGRAMME of fewest PARTS, of as many the least, of which all that is WANTED there COMES; -2: none");
        CHECK.due("nothing WANTED", 0, Check.terrace("house a 0 0;").sendFor(0));
        CHECK.due("all WANTED", 255, Check.terrace("house a 255 0;").sendFor(0));
        CHECK.due("the hum does it", 0, Check.terrace("house a 0 0;house b 6 0;hums=6;").sendFor(1));
        CHECK.due("the hum does some of it", 1, Check.terrace("house a 0 0;house b 7 0;hums=6;").sendFor(1));
        CHECK.due("one PART can't be had", -2, Check.terrace("house a 0 0;house b 129 0;keeps=part;").sendFor(1));
        // WANTED 128: of two PARTS or more all is turned by 1, of one by 2
        HeardNext x = Check.terrace("house a 0 0;house b 128 0;turns=if parts<2 then 2 else 1;");
        CHECK.due("32 alone", 32, x.sendFor(1));
        HeardNext y = Check.terrace("house a 0 0;house b 128 0;keeps=parts-1;turns=1;");
        CHECK.due("64 and, of as many, the least", 65, y.sendFor(1));
        HeardNext z = Check.terrace("house a 0 0;house b 128 0;keeps=if parts<2 then 0 else if parts<3 then part-1 else part-3;turns=if parts<3 then 3 else 7;");
        // of two PARTS 2 .. 7 are kept and turned by 3: 16 becomes 128; of more PART 0 could become 7 but is lost
        CHECK.due("fewer PARTS ahead of a lesser one", 17, z.sendFor(1));
        x.turn(1, false);
        CHECK.due("OFF", -2, x.sendFor(1));
        CHECK.due("OFF, nothing WANTED", 0, offOf("house a 0 0;", 0).sendFor(0));
    }

    private static HeardNext offOf(String text, int house) {
        HeardNext x = Check.terrace(text);
        x.turn(house, false);
        return x;
    }

    private static void apart() {
        CHECK.says("how many unlike PROGRAMMES COME there of all 256");
        CHECK.due("all", 256, Check.terrace("house a 0 0;").apart(0));
        CHECK.due("OFF: 0 alone", 1, offOf("house a 0 0;", 0).apart(0));
        CHECK.due("all lost", 1, Check.terrace("house a 0 0;house b 0 0;keeps=0;hums=255;").apart(1));
        CHECK.due("one PART is kept", 2, Check.terrace("house a 0 0;house b 0 0;keeps=part-6;").apart(1));
        CHECK.due("turned", 256, Check.terrace("house a 0 0;house b 0 0;turns=7;").apart(1));
        CHECK.due("seven PARTS beside the hum", 128, Check.terrace("house a 0 0;house b 0 0;hums=128;").apart(1));
        // one PART alone, as it is; of two or more nothing: 0 and eight others
        CHECK.due("by how many there are", 9, Check.terrace("house a 0 0;house b 0 0;keeps=2-parts;").apart(1));
    }

    private static void code() {
        CHECK.says("CODE d (1 .. 8): going from 0 to 255, each is taken that COMES there unlike all taken ahead in d PARTS or more");
        HeardNext x = Check.terrace("house a 0 0;house b 0 0;keeps=if door<1 then 1 else 4-part;");
        int[] sizes = {256, 128, 16, 16, 4, 2, 2, 2};
        int[] fewer = {16, 8, 2, 2, 1, 1, 1, 1};
        for (int d = 1; d <= 8; d++) {
            CHECK.due("d " + d + " at HOUSE 0", sizes[d - 1], x.code(0, d, -1));
            CHECK.due("d " + d + " at HOUSE 1", fewer[d - 1], x.code(1, d, -1));
            CHECK.due("0 is always taken, first", 0, x.code(0, d, 0));
        }
        CHECK.says("how many (i NONE), else the i-th; NONE: not so many");
        for (int i = 0; i < 256; i++) CHECK.due("d 1, the one with the number " + i, i, x.code(0, 1, i));
        CHECK.due("a 257th", -1, x.code(0, 1, 256));
        CHECK.due("the second of d 8", 255, x.code(0, 8, 1));
        CHECK.due("a third of d 8", -1, x.code(0, 8, 2));
        CHECK.due("a second where there is one", -1, x.code(1, 5, 1));
        HeardNext y = offOf("house a 0 0;", 0);
        CHECK.due("OFF: all alike", 1, y.code(0, 1, -1));
        CHECK.due("OFF: 0", 0, y.code(0, 8, 0));
        CHECK.due("OFF: no other", -1, y.code(0, 1, 1));
    }

    private static void lost() {
        CHECK.says("LOST on the way to a HOUSE: PARTS of which one alone COMES as 0 does");
        CHECK.due("none", 0, Check.terrace("house a 0 0;").lost(0));
        CHECK.due("OFF: all", 255, offOf("house a 0 0;", 0).lost(0));
        CHECK.due("the lowest", 1, Check.terrace("house a 0 0;house b 0 0;keeps=part;").lost(1));
        CHECK.due("the highest", 128, Check.terrace("house a 0 0;house b 0 0;keeps=7-part;").lost(1));
        CHECK.due("those that are hummed", 255, Check.terrace("house a 0 0;house b 0 0;hums=255;").lost(1));
        CHECK.due("that becomes the hum", 4, Check.terrace("house a 0 0;house b 0 0;turns=1;hums=8;").lost(1));
        CHECK.due("alone: two together would be kept", 255, Check.terrace("house a 0 0;house b 0 0;keeps=parts-1;").lost(1));
    }

    private static void between() {
        CHECK.says("BETWEEN two PROGRAMMES at a HOUSE: in how many PARTS they COME there unlike");
        HeardNext x = Check.terrace("house a 0 0;house b 0 0;keeps=if door<1 then 1 else 4-part;");
        CHECK.due("none: one and the same", 0, x.between(0, 255, 255));
        CHECK.due("all", 8, x.between(0, 0, 255));
        CHECK.due("all, the other way", 8, x.between(0, 255, 0));
        CHECK.due("unlike in all, none in both", 8, x.between(0, 170, 85));
        CHECK.due("what is lost is not unlike", 4, x.between(1, 0, 255));
        CHECK.due("all that is unlike is lost", 0, x.between(1, 0, 240));
        x.turn(0, false);
        CHECK.due("OFF", 0, x.between(1, 0, 255));
    }

    private static void widest() {
        CHECK.says("WIDEST: the greatest such number of any two; the first two; (0 and 1, if all come alike)");
        widestIs("house a 0 0;", 0, 8, 0, 255);
        widestIs("house a 0 0;house b 0 0;keeps=0;", 1, 0, 0, 1);
        widestIs("house a 0 0;house b 0 0;hums=255;", 1, 0, 0, 1);
        widestIs("house a 0 0;house b 0 0;keeps=part-6;", 1, 1, 0, 128);
        // one PART alone is kept, else all is lost: 1 and 2 are the first two that are unlike in two
        widestIs("house a 0 0;house b 0 0;keeps=2-parts;", 1, 2, 1, 2);
        // seven PARTS come as they are, all else as 0: 127 and 191 are unlike in two, 0 and 127 in seven
        widestIs("house a 0 0;house b 0 0;keeps=if parts<7 then 0 else 8-parts;", 1, 7, 0, 127);
        HeardNext x = offOf("house a 0 0;house b 0 0;", 1);
        CHECK.due("OFF", 0, x.widest(1, 0));
        CHECK.due("OFF, the lesser one", 0, x.widest(1, 1));
        CHECK.due("OFF, the other one", 1, x.widest(1, 2));
        // at most four PARTS come: 15 and 240 are all eight, 0 and 15 but four
        widestIs("house a 0 0;house b 0 0;keeps=5-parts;", 1, 8, 15, 240);
    }

    private static void widestIs(String text, int house, int most, int lesser, int other) {
        HeardNext x = Check.terrace(text);
        CHECK.due(text + " how many", most, x.widest(house, 0));
        CHECK.due(text + " the lesser one", lesser, x.widest(house, 1));
        CHECK.due(text + " the other one", other, x.widest(house, 2));
    }

    private static void same() {
        CHECK.says("SAME of two HOUSES: how many PROGRAMMES COME alike to both");
        HeardNext x = Check.terrace("house a 0 0;house b 0 0;house c 0 0;keeps=if door<2 then 1 else 0;hums=if door<2 then 0 else 1;");
        CHECK.due("all", 256, x.same(0, 1));
        CHECK.due("just 1", 1, x.same(0, 2));
        CHECK.due("the other way", 1, x.same(2, 0));
        CHECK.due("none", 0, Check.terrace("house a 0 0;house b 0 0;house c 0 0;keeps=0;hums=door;").same(1, 2));
        x.turn(2, false);
        CHECK.due("OFF: 0 alone", 1, x.same(0, 2));
        x.turn(0, false);
        CHECK.due("all OFF", 256, x.same(1, 2));
    }

    private static void itself() {
        CHECK.says("ITSELF: the least PROGRAMME but 0 that COMES there as it is; -2: none");
        CHECK.due("1 at HOUSE 0", 1, Check.terrace("house a 0 0;").itself(0));
        CHECK.due("255 alone", 255, Check.terrace("house a 0 0;house b 0 0;turns=1;").itself(1));
        CHECK.due("all is hummed", 255, Check.terrace("house a 0 0;house b 0 0;hums=255;").itself(1));
        CHECK.due("128 alone", 128, Check.terrace("house a 0 0;house b 0 0;keeps=part-6;").itself(1));
        CHECK.due("0 does not count", -2, Check.terrace("house a 0 0;house b 0 0;keeps=0;").itself(1));
        CHECK.due("OFF", -2, offOf("house a 0 0;", 0).itself(0));
    }

    private static void times() {
        CHECK.says("TIMES: the fewest hours (0 .. 3) of the next 24, this one 0; how many (i NONE), else the i-th hour; NONE: not so many");
        timesAre("house a 0 0;house b 0 0;keeps=0;", 0);
        timesAre("house a 0 0;house b 255 0;", 1, 0);
        timesAre("house a 0 0;house b 1 0;keeps=" + hour("1", 0) + ";", 1, 23);
        timesAre("house a 0 0;house b 1 0;keeps=" + hour("1", 1) + ";", 1, 0);
        timesAre("house a 0 0;house b 3 0;keeps=if part<1 then hour/23 else if hour<1 then 1 else 0;", 2, 22, 23);
        timesAre("house a 0 0;house b 7 0;keeps=if part<1 then hour/23 else if part<2 then 1-hour else if hour<22 then 0 else 23-hour;", 3, 21, 22, 23);
        CHECK.says("of as many those with the lowest first, then the next one");
        // PART 0 in even hours, PART 1 in odd ones: SENT at 0 it passes at 1
        timesAre("house a 0 0;house b 3 0;keeps=if part<1 then 1-hour+hour/2*2 else hour-hour/2*2;", 2, 0, 1);
        // PARTS 0 .. 2 by the hour's rest by 3
        timesAre("house a 0 0;house b 7 0;keeps=if hour-hour/3*3<part then 0 else if part<hour-hour/3*3 then 0 else 1;", 3, 0, 1, 2);
        // PART 0 in hours 1 and 5, both of 0 and 1 in hour 9: one hour is fewer than two
        timesAre("house a 0 0;house b 3 0;keeps=if 9<hour then 0 else if hour<9 then (1-part)*(hour-hour/4*4) else 1;", 1, 8);
        CHECK.says("-2: not by three (i NONE or not)");
        HeardNext four = Check.terrace("house a 0 0;house b 15 0;keeps=if hour<part then 0 else if part<hour then 0 else 1;");
        for (int i = -1; i <= 2; i++) CHECK.due("four hours, i " + i, -2, four.times(1, i));
        HeardNext off = offOf("house a 0 0;house b 1 0;", 0);
        for (int i = -1; i <= 2; i++) CHECK.due("OFF, i " + i, -2, off.times(1, i));
        CHECK.says("of the next 24, whatever was asked ahead");
        HeardNext asked = Check.terrace("house a 0 0;house b 1 0;keeps=0;");
        CHECK.due("apart(0)", 256, asked.apart(0));
        CHECK.due("nothing comes in any of them", -2, asked.times(1, -1));
        CHECK.says("all that is WANTED there, and was not had");
        HeardNext x = Check.terrace("house a 0 0;house b 15 0;keeps=if hour<part then 0 else if part<hour then 0 else 1;");
        x.send(255);
        x.hours(2);
        CHECK.due("PART 1 was had: three are left", 3, x.times(1, -1));
        // it is hour 2: PART 3 passes in hour 3, PART 0 in hour 24, PART 2 in hour 26
        int[] due = {0, 21, 23};
        for (int i = 0; i < 3; i++) CHECK.due("i " + i, due[i], x.times(1, i));
        x.send(255);
        x.hours(1);
        x.send(255);
        x.hours(1);
        x.carry(0, 1);
        CHECK.due("all were had", 0, x.times(1, -1));
        x.turn(1, false);
        CHECK.due("all were had, OFF", 0, x.times(1, -1));
    }

    private static void timesAre(String text, int size, int... hours) {
        HeardNext x = Check.terrace(text);
        CHECK.due(text + " how many", size, x.times(1, -1));
        for (int i = 0; i < 3; i++) CHECK.due(text + " the one with the number " + i, i < size ? hours[i] : -1, x.times(1, i));
    }

    private static void bestHour() {
        CHECK.says("BEST hour: of the next 24 the first in which, all PARTS being SENT then, most that is WANTED COMES; how many");
        bestIs("house a 0 0;house b 255 0;", 0, 8);
        bestIs("house a 0 0;house b 0 0;", 0, 0);
        bestIs("house a 0 0;house b 255 0;keeps=0;", 0, 0);
        bestIs("house a 0 0;house b 255 0;keeps=" + hour("1", 0) + ";", 23, 8);
        bestIs("house a 0 0;house b 255 0;keeps=" + hour("1", 1) + ";", 0, 8);
        bestIs("house a 0 0;house b 255 0;keeps=hour-part-15;", 22, 8);
        bestIs("house a 0 0;house b 3 0;keeps=hour-part-9;", 10, 2);
        bestIs("house a 0 0;house b 6 0;keeps=1-hour;hums=2;", 23, 2);
        HeardNext x = offOf("house a 0 0;house b 255 0;hums=255;", 1);
        CHECK.due("OFF, which", 0, x.bestHour(1, 0));
        CHECK.due("OFF, how many", 0, x.bestHour(1, 1));
        CHECK.says("the next 24: not the day after");
        HeardNext y = Check.terrace("house a 0 0;house b 255 0;keeps=if day<1 then 1-part else day*24+hour-24;");
        CHECK.due("HOUR 25 is too late: the last is 24, of which it keeps none", 0, y.bestHour(1, 0));
        CHECK.due("one PART", 1, y.bestHour(1, 1));
        y.hours(1);
        CHECK.due("HOUR 25 is in time", 23, y.bestHour(1, 0));
        CHECK.due("all PARTS", 8, y.bestHour(1, 1));
    }

    private static void bestIs(String text, int which, int many) {
        HeardNext x = Check.terrace(text);
        CHECK.due(text + " which", which, x.bestHour(1, 0));
        CHECK.due(text + " how many", many, x.bestHour(1, 1));
    }

    private static void breakAndOff() {
        CHECK.says("BREAK: the first HOUSE from 0 to it whose set does not HEAR; -2: none");
        HeardNext x = Check.terrace(Check.houses(10, "0 0") + "dies=if door<7 then 0 else if door<8 then 100 else 0;");
        for (int h = 0; h < 10; h++) CHECK.due("all HEAR, " + h, -2, x.breakAt(h));
        x.turn(9, false);
        CHECK.due("itself", 9, x.breakAt(9));
        CHECK.due("behind it", -2, x.breakAt(8));
        x.hours(1);
        CHECK.due("GRIEF", 7, x.breakAt(9));
        CHECK.due("GRIEF", 7, x.breakAt(7));
        x.turn(0, false);
        for (int h = 0; h < 10; h++) CHECK.due("HOUSE 0, " + h, 0, x.breakAt(h));
        CHECK.says("OFF: the fewest sets that must be switched ON so that one HEARS all the way (GRIEF not looked at)");
        CHECK.due("to 0", 1, x.off(0));
        CHECK.due("to 8", 1, x.off(8));
        CHECK.due("to 9", 2, x.off(9));
        HeardNext y = Check.terrace(Check.houses(10, "0 0") + "dies=100;");
        y.hours(1);
        CHECK.due("all ON, all in GRIEF", 0, y.off(9));
        for (int h = 0; h < 10; h++) y.turn(h, false);
        for (int h = 0; h < 10; h++) CHECK.due("all OFF, to " + h, h + 1, y.off(h));
    }

    private static void loudest() {
        CHECK.says("LOUDEST in n HOURS (1 .. 72, no DEATHS): the HOUSE that hears most PARTS in them, added hour by hour, of alike ones the first; how many");
        HeardNext x = Check.terrace(Check.houses(10, "0 0") + "sends 0 255;");
        CHECK.due("n 1", 0, x.loudest(1, 0));
        CHECK.due("n 1, how many", 8, x.loudest(1, 1));
        CHECK.due("n 10, all alike: the first", 0, x.loudest(10, 0));
        CHECK.due("n 10, how many", 8, x.loudest(10, 1));
        CHECK.due("n 72, three days", 0, x.loudest(72, 0));
        CHECK.due("n 72, how many", 24, x.loudest(72, 1));
        x.hours(1);
        CHECK.due("HOUSE 0 heard it ahead of that", 1, x.loudest(1, 0));
        CHECK.due("all alike but 0", 1, x.loudest(9, 0));
        CHECK.due("now it hears again", 0, x.loudest(24, 0));
        HeardNext y = Check.terrace(Check.houses(10, "0 0") + "hums=if door<9 then 0 else 255;dies=100;grief 99;");
        CHECK.due("HOUSE 9, no DEATHS", 9, y.loudest(72, 0));
        CHECK.due("as much as can be", 576, y.loudest(72, 1));
        y.hours(1);
        CHECK.due("GRIEF that there is: none hears", 0, y.loudest(72, 0));
        CHECK.due("nothing", 0, y.loudest(72, 1));
        CHECK.says("-2: no HOUSES");
        CHECK.due("n 1", -2, new HeardNext().loudest(1, 0));
        CHECK.due("n 72", -2, new HeardNext().loudest(72, 1));
    }

    private static void warm() {
        CHECK.says("WARM behind n HOURS (0 .. 72, no DEATHS): how many HOUSES heard something last");
        HeardNext x = Check.terrace(Check.houses(10, "0 0") + "hums=if day<2 then 0 else if hour<23 then 0 else 1;dies=100;grief 99;");
        CHECK.due("behind 0", 0, x.warm(0));
        CHECK.due("behind 71", 0, x.warm(71));
        CHECK.due("behind 72, the hum of hour 71", 9, x.warm(72));
        x.send(1);
        x.hours(1);
        CHECK.due("behind 0, as of now", 1, x.warm(0));
        CHECK.due("GRIEF that there is", 0, x.warm(71));
        for (int h = 1; h < 10; h++) x.carry(0, h);
        CHECK.due("behind 0, all", 10, x.warm(0));
        CHECK.due("behind 1, GRIEF", 0, x.warm(1));
    }

    private static void warmth() {
        CHECK.says("WARMTH of a HOUSE: behind how many HOURS (1 .. 72) it hears something; -2: not");
        HeardNext x = Check.terrace("house a 0 0;house b 0 0;hums=if day<2 then 0 else if hour<23 then 0 else 1;sends 0 1;keeps=0;");
        CHECK.due("behind 1", 1, x.warmth(0));
        CHECK.due("behind 72", 72, x.warmth(1));
        x.hours(1);
        CHECK.due("not what was heard already", 24, x.warmth(0));
        CHECK.due("behind 71", 71, x.warmth(1));
        HeardNext y = Check.terrace("house a 0 0;house b 0 0;hums=if day<3 then 0 else 1;keeps=0;");
        CHECK.due("behind 73: not", -2, y.warmth(1));
        y.hours(1);
        CHECK.due("behind 72", 72, y.warmth(1));
        y.turn(1, false);
        CHECK.due("OFF: not", -2, y.warmth(1));
        CHECK.due("nothing SENT: not", -2, y.warmth(0));
    }

    private static void then() {
        CHECK.says("IN n HOURS (0 .. 72; with DEATHS): what a HOUSE heard last; how many PARTS that are WANTED it had; all HOUSES that had all that is WANTED there");
        HeardNext x = Check.terrace("house a 255 0;house b 0 0;house c 3 0;sends 23 255;keeps=part-day-day;");
        // hour 24 is of day 1: PARTS 3 .. 7 are kept
        int[][] heard = {{0, 0}, {0, 0}, {255, 0}, {0, 248}, {255, 0}, {255, 0}};
        int[] behind = {0, 23, 24, 25, 48, 72};
        for (int i = 0; i < behind.length; i++) {
            for (int h = 0; h < 2; h++) CHECK.due("heard, HOUSE " + h + " behind " + behind[i], heard[i][h], x.then(h, behind[i], 0));
        }
        CHECK.due("had, behind 23", 0, x.then(0, 23, 1));
        CHECK.due("had, behind 24", 8, x.then(0, 24, 1));
        CHECK.due("had by one who wants nothing", 0, x.then(1, 72, 1));
        CHECK.due("PARTS 0 and 1 are lost", 0, x.then(2, 72, 1));
        CHECK.due("all HOUSES behind 0: who wants nothing", 1, x.then(0, 0, 2));
        CHECK.due("all HOUSES behind 24", 2, x.then(0, 24, 2));
        CHECK.due("all HOUSES behind 72", 2, x.then(0, 72, 2));
        x.send(1);
        x.hours(1);
        CHECK.due("behind 0: as of now", 1, x.then(0, 0, 0));
        CHECK.due("behind 0: as of now", 1, x.then(0, 0, 1));
        HeardNext y = Check.terrace("house a 255 0;dies=100;grief 71;sends 23 255;");
        CHECK.due("GRIEF from hour 1 to 71", 0, y.then(0, 72, 1));
        HeardNext z = Check.terrace("house a 255 0;dies=100;grief 22;sends 23 255;");
        CHECK.due("GRIEF from hour 1 to 22", 8, z.then(0, 24, 1));
        CHECK.says("HOUSE not looked at for 2");
        for (int h : new int[] {Integer.MIN_VALUE, -1, 3, 10, Integer.MAX_VALUE}) CHECK.due("HOUSE " + h, 2, x.then(h, 72, 2));
    }

    private static void quiet() {
        CHECK.says("QUIET of a HOUSE for n HOURS (1 .. 72, no DEATHS): behind how many of them it heard nothing last");
        HeardNext x = Check.terrace("house a 0 0;house b 0 0;sends 0 1;keeps=0;hums=255;dies=100;grief 99;");
        CHECK.due("n 1, heard", 0, x.quiet(0, 1));
        CHECK.due("n 2", 1, x.quiet(0, 2));
        CHECK.due("n 72, three heard", 69, x.quiet(0, 72));
        CHECK.due("n 72, never quiet", 0, x.quiet(1, 72));
        x.turn(1, false);
        CHECK.due("n 1, OFF", 1, x.quiet(1, 1));
        CHECK.due("n 72, OFF", 72, x.quiet(1, 72));
        x.turn(1, true);
        x.hours(1);
        CHECK.due("GRIEF that there is", 72, x.quiet(1, 72));
        HeardNext y = Check.terrace("house a 0 0;house b 0 0;hums=1;dies=100;grief 2;");
        y.hours(1);
        CHECK.due("GRIEF for two, no DEATHS then", 2, y.quiet(1, 72));
    }

    private static void mourn() {
        CHECK.says("MOURN: how many HOUSES are in GRIEF behind n HOURS (0 .. 72)");
        HeardNext x = Check.terrace(Check.houses(10, "0 0") + "dies=" + hour("100", 23) + ";grief 48;");
        int[] behind = {0, 23, 24, 71, 72};
        // GRIEF from hour 24 to 71; hour 71 is one of DEATH only where there is none
        int[] due = {0, 0, 10, 10, 0};
        for (int i = 0; i < behind.length; i++) CHECK.due("behind " + behind[i], due[i], x.mourn(behind[i]));
        HeardNext y = Check.terrace(Check.houses(10, "0 0") + "dies=" + hour("100", 23) + ";grief 47;");
        CHECK.due("behind 70", 10, y.mourn(70));
        CHECK.due("behind 71", 0, y.mourn(71));
        CHECK.due("behind 72, again", 10, y.mourn(72));
        x.hours(24);
        CHECK.due("behind 0: as of now", 10, x.mourn(0));
        CHECK.due("behind 48: it ends", 0, x.mourn(48));
        CHECK.due("behind 47", 10, x.mourn(47));
    }

    private static void carryBest() {
        CHECK.says("CARRY: by which most PARTS WANTED there, not had yet, come; of alike ones the first from, then the first to; how many; -2: none by any");
        HeardNext x = Check.terrace(Check.houses(9, "0 0") + "house z 255 0;");
        CHECK.due("nothing is heard", -2, x.carryBest(0));
        x.send(255);
        x.hours(1);
        CHECK.due("from 0 to 9", 9, x.carryBest(0));
        CHECK.due("all eight", 8, x.carryBest(1));
        x.carry(0, 8);
        CHECK.due("from 0 or 8: the first from", 9, x.carryBest(0));
        x.hours(1);
        CHECK.due("to 9 it came of itself", -2, x.carryBest(0));
        CHECK.due("how many", -2, x.carryBest(1));
        HeardNext y = Check.terrace("house a 0 0;house b 0 0;house c 7 0;house d 7 0;house e 7 0;keeps=0;hums=if door<3 then 0 else if door<4 then 0 else 64;");
        y.send(3);
        y.hours(1);
        CHECK.due("the first to", 2, y.carryBest(0));
        CHECK.due("two", 2, y.carryBest(1));
        y.carry(0, 2);
        y.carry(0, 4);
        CHECK.due("one has not had it yet", 3, y.carryBest(0));
        HeardNext z = Check.terrace(Check.houses(8, "0 0") + "house y 128 0;house z 0 0;keeps=0;hums=if door<9 then 0 else 128;");
        z.hours(1);
        CHECK.due("from 9 to 8", 98, z.carryBest(0));
        z.turn(8, false);
        z.turn(9, false);
        CHECK.due("their sets ON or not", 98, z.carryBest(0));
        z.carry(9, 8);
        CHECK.due("none by any", -2, z.carryBest(0));
        CHECK.says("NEEDS of a HOUSE: PARTS WANTED there that were not had");
        CHECK.due("all were had", 0, z.needs(8));
        CHECK.due("none is WANTED", 0, z.needs(9));
        CHECK.due("none was had", 128, Check.terrace("house a 128 0;").needs(0));
        CHECK.due("all are WANTED", 255, Check.terrace("house a 255 0;").needs(0));
    }

    private static void changeBest() {
        CHECK.says("CHANGE: the two who have most HOUSES with all that is WANTED in 48 HOURS, more than else; of alike ones the first; -2: none");
        HeardNext x = Check.terrace(Check.houses(8, "0 0") + "house y 128 0;house z 0 0;keeps=0;hums=if door<9 then 0 else 128;");
        CHECK.due("8 and 9", 89, x.changeBest(0));
        CHECK.due("all ten", 10, x.changeBest(1));
        x.change(8, 9);
        CHECK.due("all have it, else, too", -2, x.changeBest(0));
        CHECK.due("how many", -2, x.changeBest(1));
        HeardNext y = Check.terrace(Check.houses(4, "1 0") + "keeps=0;");
        CHECK.due("nobody ever", -2, y.changeBest(0));
        HeardNext z = Check.terrace("house a 1 0;house b 1 0;house c 0 0;house d 0 0;keeps=0;hums=if door<2 then 0 else 1;");
        CHECK.due("0 and 2, 0 and 3, 1 and 2, 1 and 3 are alike: the first", 2, z.changeBest(0));
        CHECK.due("three", 3, z.changeBest(1));
        CHECK.says("in 48 HOURS");
        String late = "house a 1 0;house b 0 0;keeps=0;hums=if day*24+hour<";
        CHECK.due("the hum of hour 47", 1, Check.terrace(late + "47 then 0 else 1;").changeBest(0));
        CHECK.due("the hum of hour 48", -2, Check.terrace(late + "48 then 0 else 1;").changeBest(0));
        CHECK.says("having changed HOUSES now: AGE goes with them");
        HeardNext v = Check.terrace("house a 0 90;house b 1 10;keeps=0;hums=if door<1 then 0 else if age<50 then 0 else 1;");
        CHECK.due("b hears nothing at her AGE, nor in HOUSE 0", -2, v.changeBest(0));
        v = Check.terrace("house a 1 90;house b 0 10;keeps=0;hums=if door<1 then 0 else if age<50 then 0 else 1;");
        CHECK.due("a does", 1, v.changeBest(0));
        CHECK.says("having changed HOUSES now: what was had goes with them");
        HeardNext w = Check.terrace("house a 3 0;house b 2 0;keeps=0;hums=1;");
        w.send(2);
        w.hours(1);
        CHECK.due("a has had 2, and hears 1 in HOUSE 1; b never hears 2", 1, w.changeBest(0));
        CHECK.due("one", 1, w.changeBest(1));
    }

    private static void year() {
        CHECK.says("YEAR by s SEEDS (1 .. 20) from the text's SEED on: in how many of them a HOUSE had all that is WANTED there in n HOURS (0 .. 72)");
        HeardNext x = Check.terrace("house a 0 0;house b 4 0;hums=4;dies=100;");
        CHECK.due("n 0, nothing is WANTED", 20, x.year(0, 0, 20));
        CHECK.due("n 0, not yet", 0, x.year(1, 0, 20));
        CHECK.due("n 1", 20, x.year(1, 1, 20));
        CHECK.due("s 1", 1, x.year(1, 72, 1));
        for (int seed : new int[] {0, 7, 9990, 9999}) {
            // the hum of hour 1 is heard if there was no DEATH in hour 0
            HeardNext y = Check.terrace("house a 0 0;house b 4 0;hums=if hour<1 then 0 else 4;dies=40;grief 99;seed " + seed + ";");
            int good = 0;
            for (int s = 1; s <= 20; s++) {
                if (lot(seed + s - 1, 1) >= 40) good++;
                CHECK.due("SEED " + seed + ", " + s + " of them", good, y.year(1, 2, s));
                CHECK.due("SEED " + seed + ", " + s + " of them, n 72", good, y.year(1, 72, s));
            }
        }
        CHECK.says("the text's SEED is that of IN, too");
        HeardNext z = Check.terrace("house a 0 0;house b 4 0;hums=if hour<1 then 0 else 4;dies=40;grief 99;seed 8;");
        CHECK.due("one SEED", z.then(1, 72, 1), z.year(1, 72, 1));
    }

    private static int lot(int seed, int which) {
        int h = seed;
        for (int it : new int[] {137, which}) {
            h = (h ^ it) * 1103515245 + 12345;
            h ^= h >>> 15;
        }
        return (h >>> 1) % 100;
    }

    private static void sent() {
        CHECK.says("KNOWN by k: the first k; SENT: how many; the least; PARTS that are in all of them; PARTS that are in none");
        HeardNext x = Check.terrace("house a 0 0;house b 0 0;house c 0 0;keeps=if door<2 then 4-part else part-1;");
        sentIs(x, 0, 256, 0, 0, 0);
        x.tell(1, 15);
        sentIs(x, 1, 16, 15, 15, 0);
        x.tell(2, 12);
        sentIs(x, 2, 16, 15, 15, 0);
        x.tell(0, 255);
        sentIs(x, 3, 1, 255, 255, 0);
        x.tell(0, 254);
        sentIs(x, 4, 0, -2, -2, -2);
        sentIs(x, 3, 1, 255, 255, 0);
        sentIs(x, 0, 256, 0, 0, 0);
        x.forget();
        x.tell(0, 0);
        sentIs(x, 1, 1, 0, 0, 255);
        x.forget();
        x.tell(1, 16);
        sentIs(x, 1, 0, -2, -2, -2);
        x.forget();
        for (int i = 0; i < 20; i++) x.tell(1, 8);
        sentIs(x, 20, 16, 8, 8, 7);
        CHECK.due("k beyond", -1, x.sent(21, 0));
        CHECK.says("what COMES to a HOUSE: 0, where a set does not HEAR");
        x.forget();
        x.turn(1, false);
        x.tell(1, 0);
        sentIs(x, 1, 256, 0, 0, 0);
        x.tell(2, 1);
        sentIs(x, 2, 0, -2, -2, -2);
    }

    private static void sentIs(HeardNext x, int k, int many, int least, int inAll, int inNone) {
        CHECK.due("sent(" + k + ", 0)", many, x.sent(k, 0));
        CHECK.due("sent(" + k + ", 1)", least, x.sent(k, 1));
        CHECK.due("sent(" + k + ", 2)", inAll, x.sent(k, 2));
        CHECK.due("sent(" + k + ", 3)", inNone, x.sent(k, 3));
    }

    private static void listen() {
        CHECK.says("LISTEN: the HOUSE of which, once it is told what COMES there, fewest are left, at worst; of alike ones the first; -2: none is left, no HOUSES");
        HeardNext x = Check.terrace(Check.houses(10, "0 0") + "keeps=1;");
        CHECK.due("all alike", 0, x.listen(0));
        x.tell(9, 77);
        CHECK.due("one is left, all alike", 0, x.listen(1));
        x.tell(9, 78);
        CHECK.due("none is left", -2, x.listen(2));
        CHECK.due("KNOWN by 1, still", 0, x.listen(1));
        x.turn(0, false);
        CHECK.due("all OFF, all alike", 0, x.listen(0));
        CHECK.due("none is left of what never comes", -2, x.listen(1));
        CHECK.due("no HOUSES", -2, new HeardNext().listen(0));
        // HOUSE 0 is never worse than those behind it: what comes there is of what came to it
        HeardNext y = Check.terrace("house a 0 0;house b 0 0;keeps=4-part;");
        y.tell(1, 3);
        CHECK.due("sixteen are left, HOUSE 0 tells them apart", 0, y.listen(1));
        y.tell(0, 19);
        CHECK.due("one is left", 0, y.listen(2));
    }

    public static void main(String[] args) {
        comes();
        last();
        sendFor();
        apart();
        code();
        lost();
        between();
        widest();
        same();
        itself();
        times();
        bestHour();
        breakAndOff();
        loudest();
        warm();
        warmth();
        then();
        quiet();
        mourn();
        carryBest();
        changeBest();
        year();
        sent();
        listen();
        CHECK.end();
    }
}
