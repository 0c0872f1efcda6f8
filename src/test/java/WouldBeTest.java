/** Promises 27 to 38: what would be. */
public final class WouldBeTest {
    private static final Check CHECK = new Check();
    private static final String ROW = "house a 3 20;house b 5 33;house c 14 40;sends 2 7;sends 5 129;";
    /** All die in the first hour, for two hours. */
    private static final String DEADLY = "house a 3 20;house b 5 33;dies=100;grief 2;hums=4;";

    private static void loudest() {
        HeardNext x = Check.terrace(ROW);
        CHECK.due("loudest(2, 0), none loud", 0, x.loudest(2, 0));
        CHECK.due("loudest(2, 1)", 0, x.loudest(2, 1));
        CHECK.due("loudest(3, 1)", 3, x.loudest(3, 1));
        CHECK.due("loudest(6, 0)", 0, x.loudest(6, 0));
        CHECK.due("loudest(6, 1)", 5, x.loudest(6, 1));
        CHECK.due("loudest(0, 0)", -1, x.loudest(0, 0));
        CHECK.due("loudest(73, 0)", -1, x.loudest(73, 0));
        CHECK.due("loudest(1, 2)", -1, x.loudest(1, 2));
        CHECK.due("loudest(1, -1)", -1, x.loudest(1, -1));
        CHECK.due("loudest(72, 1)", 15, x.loudest(72, 1));
        CHECK.due("nothing happens", 0, x.count(2));
        x.send(255);
        CHECK.due("by hand, too", 8, x.loudest(1, 1));
        x.turn(0, false);
        CHECK.due("OFF", 0, x.loudest(72, 1));
        HeardNext y = Check.terrace(DEADLY);
        CHECK.due("no DEATHS, the hum", 1, y.loudest(10, 0));
        CHECK.due("no DEATHS, the hum", 10, y.loudest(10, 1));
        y.hours(1);
        CHECK.due("GRIEF that there is", 8, y.loudest(10, 1));
        HeardNext z = new HeardNext();
        CHECK.due("no HOUSES", -2, z.loudest(1, 1));
        CHECK.due("no HOUSES, no such n", -1, z.loudest(0, 1));
    }

    private static void warm() {
        HeardNext x = Check.terrace(ROW);
        CHECK.due("warm(0)", 0, x.warm(0));
        CHECK.due("warm(3)", 1, x.warm(3));
        CHECK.due("warm(9)", 0, x.warm(9));
        CHECK.due("warm(72)", 0, x.warm(72));
        CHECK.due("warm(73)", -1, x.warm(73));
        CHECK.due("warm(-1)", -1, x.warm(-1));
        x.send(1);
        x.hours(1);
        x.carry(0, 2);
        CHECK.due("warm(0)", 2, x.warm(0));
        HeardNext y = Check.terrace(DEADLY);
        CHECK.due("no DEATHS", 1, y.warm(2));
        y.hours(1);
        CHECK.due("GRIEF that there is", 0, y.warm(2));
        CHECK.due("and its end", 1, y.warm(3));
    }

    private static void lives() {
        HeardNext x = Check.terrace(ROW);
        CHECK.due("lives(1)", 1, x.lives(1));
        x.change(0, 1);
        x.change(1, 2);
        CHECK.due("lives(0)", 2, x.lives(0));
        CHECK.due("lives(1)", 0, x.lives(1));
        CHECK.due("lives(2)", 1, x.lives(2));
        CHECK.due("lives(3)", -1, x.lives(3));
        CHECK.due("lives(-1)", -1, x.lives(-1));
        CHECK.due("moved", 7, x.count(17));
        x.change(0, 2);
        CHECK.due("moved", 6, x.count(17));
    }

    private static void warmth() {
        HeardNext x = Check.terrace(ROW);
        CHECK.due("warmth(0)", 3, x.warmth(0));
        CHECK.due("warmth(2)", 5, x.warmth(2));
        CHECK.due("warmth(3)", -1, x.warmth(3));
        CHECK.due("warmth(-1)", -1, x.warmth(-1));
        x.hours(3);
        CHECK.due("the next one, not the latest", 3, x.warmth(0));
        x.turn(1, false);
        CHECK.due("OFF", -2, x.warmth(2));
        CHECK.due("nothing happens", 3, x.count(2));
        HeardNext y = Check.terrace("house a 0 0;house b 0 0;hums=if day<3 then 0 else 1;");
        CHECK.due("not in 72", -2, y.warmth(1));
        y.hours(1);
        CHECK.due("in just 72", 72, y.warmth(1));
        // all die in hour 0; the hum of hour 1 falls into GRIEF, that of hour 7 does not
        HeardNext z = Check.terrace("house a 0 0;house b 0 0;hums=if hour<1 then 0 else if hour<2 then 1 else if hour<7 then 0 else 1;dies=100;");
        CHECK.due("with DEATHS", 8, z.warmth(1));
    }

    private static void thenAndQuiet() {
        HeardNext x = Check.terrace(ROW);
        CHECK.due("then(0, 3, 0)", 7, x.then(0, 3, 0));
        CHECK.due("then(1, 4, 0)", 7, x.then(1, 4, 0));
        CHECK.due("then(2, 5, 1)", 2, x.then(2, 5, 1));
        CHECK.due("then(2, 0, 1)", 0, x.then(2, 0, 1));
        CHECK.due("then(0, 72, 2)", 2, x.then(0, 72, 2));
        CHECK.due("HOUSE not looked at", 2, x.then(-7, 72, 2));
        CHECK.due("then(3, 1, 0)", -1, x.then(3, 1, 0));
        CHECK.due("then(3, 1, 1)", -1, x.then(3, 1, 1));
        CHECK.due("then(0, 73, 2)", -1, x.then(0, 73, 2));
        CHECK.due("then(0, -1, 2)", -1, x.then(0, -1, 2));
        CHECK.due("then(0, 1, 3)", -1, x.then(0, 1, 3));
        CHECK.due("then(0, 1, -1)", -1, x.then(0, 1, -1));
        HeardNext y = Check.terrace(DEADLY);
        CHECK.due("the hum", 4, y.then(1, 1, 0));
        CHECK.due("with DEATHS", 0, y.then(1, 2, 0));
        CHECK.due("with DEATHS", 0, y.then(1, 3, 0));
        CHECK.due("behind GRIEF", 4, y.then(1, 4, 0));
        CHECK.due("quiet, no DEATHS", 0, y.quiet(1, 10));
        CHECK.due("quiet(0, 10)", 10, y.quiet(0, 10));
        y.hours(1);
        CHECK.due("GRIEF that there is", 2, y.quiet(1, 10));
        CHECK.due("quiet(1, 0)", -1, y.quiet(1, 0));
        CHECK.due("quiet(1, 73)", -1, y.quiet(1, 73));
        CHECK.due("quiet(2, 1)", -1, y.quiet(2, 1));
        CHECK.due("quiet(-1, 1)", -1, y.quiet(-1, 1));
        CHECK.due("quiet(1, 72)", 2, y.quiet(1, 72));
    }

    private static void mourn() {
        HeardNext x = Check.terrace("house a 1 0;house b 1 0;house c 1 0;dies=27;grief 2;seed 7;");
        int[] due = {0, 1, 2, 1, 1};
        for (int n = 0; n < 5; n++) CHECK.due("mourn(" + n + ")", due[n], x.mourn(n));
        CHECK.due("mourn(-1)", -1, x.mourn(-1));
        CHECK.due("mourn(73)", -1, x.mourn(73));
        CHECK.due("nothing happens", 0, x.count(13));
        x.hours(2);
        CHECK.due("mourn(0)", 2, x.mourn(0));
        CHECK.due("mourn(2)", 1, x.mourn(2));
    }

    private static void carryBest() {
        HeardNext x = Check.terrace("house a 1 0;house b 6 0;house c 6 0;house d 9 0;");
        CHECK.due("nothing heard", -2, x.carryBest(0));
        CHECK.due("nothing heard", -2, x.carryBest(1));
        x.send(15);
        x.hours(1);
        CHECK.due("the first to of alike ones", 1, x.carryBest(0));
        CHECK.due("how many", 2, x.carryBest(1));
        x.carry(0, 1);
        CHECK.due("had already", 2, x.carryBest(0));
        x.carry(1, 2);
        CHECK.due("the first from of alike ones", 3, x.carryBest(0));
        x.turn(3, false);
        CHECK.due("its set ON or not", 3, x.carryBest(0));
        x.carry(2, 3);
        CHECK.due("none by any", -2, x.carryBest(0));
        CHECK.due("none by any", -2, x.carryBest(1));
        CHECK.due("carryBest(2)", -1, x.carryBest(2));
        CHECK.due("carryBest(-1)", -1, x.carryBest(-1));
        HeardNext y = Check.terrace("house a 8 0;house b 9 0;keeps=0;hums=8;");
        y.hours(1);
        CHECK.due("from 1 to 0", 10, y.carryBest(0));
        CHECK.due("how many", 1, y.carryBest(1));
    }

    private static void needs() {
        HeardNext x = Check.terrace(ROW);
        CHECK.due("needs(2)", 14, x.needs(2));
        x.hours(5);
        CHECK.due("needs(0)", 0, x.needs(0));
        CHECK.due("needs(2)", 8, x.needs(2));
        CHECK.due("needs(3)", -1, x.needs(3));
        CHECK.due("needs(-1)", -1, x.needs(-1));
    }

    private static void changeBest() {
        // 12 comes to HOUSE 0 alone, 3 everywhere
        HeardNext x = Check.terrace("house a 3 0;house b 12 0;house c 4 0;house d 1 0;sends 4 15;keeps=2-part;");
        CHECK.due("as it is", 2, x.then(0, 48, 2));
        CHECK.due("0 and 1", 1, x.changeBest(0));
        CHECK.due("three of four", 3, x.changeBest(1));
        CHECK.due("changeBest(2)", -1, x.changeBest(2));
        CHECK.due("changeBest(-1)", -1, x.changeBest(-1));
        CHECK.due("nothing happens", 0, x.count(17));
        x.change(0, 1);
        CHECK.due("none is better", -2, x.changeBest(0));
        CHECK.due("none is better", -2, x.changeBest(1));
        // HOUSE 0 is off: 2 and 3 change, as the one who lives in 2 hears the hum of 3
        HeardNext y = Check.terrace("house a 0 0;house b 0 0;house c 8 0;house d 0 0;hums=if door<3 then 0 else 8;dies=100;grief 99;");
        CHECK.due("2 and 3, no DEATHS", 23, y.changeBest(0));
        CHECK.due("all four", 4, y.changeBest(1));
        y.turn(3, false);
        CHECK.due("OFF", -2, y.changeBest(0));
        HeardNext w = Check.terrace("house a 8 0;house b 0 0;hums=if hour<1 then 0 else 8;dies=100;grief 99;");
        CHECK.due("the hum of hour 1, no DEATHS", 1, w.changeBest(0));
        w.hours(1);
        CHECK.due("GRIEF that there is", -2, w.changeBest(0));
        // 48 HOURS and no more: hour 47 is the last
        HeardNext z = Check.terrace("house a 0 0;house b 1 0;hums=0;sends 23 1;keeps=if day<1 then 0 else if day<2 then 0 else 1;");
        CHECK.due("SENT to HOUSE 0 in time", 1, z.changeBest(0));
        HeardNext v = Check.terrace("house a 1 0;house b 0 0;house c 0 0;hums=if day<2 then 0 else 1;");
        CHECK.due("the hum of day 2 is too late", -2, v.changeBest(0));
        v.hours(1);
        CHECK.due("the hum of day 2 is in time", 1, v.changeBest(0));
    }

    private static void off() {
        HeardNext x = Check.terrace(ROW + "dies=100;");
        CHECK.due("off(2)", 0, x.off(2));
        x.turn(0, false);
        x.turn(2, false);
        CHECK.due("off(0)", 1, x.off(0));
        CHECK.due("off(1)", 1, x.off(1));
        CHECK.due("off(2)", 2, x.off(2));
        x.hours(1);
        CHECK.due("GRIEF not looked at", 2, x.off(2));
        CHECK.due("off(3)", -1, x.off(3));
        CHECK.due("off(-1)", -1, x.off(-1));
    }

    /** LOT 100 of hour 0, HOUSE 1: SEED 7: 21, 8: 15; 9999: 16, 10000: 40. */
    private static void year() {
        String row = "house a 0 0;house b 4 0;hums=if hour<1 then 0 else 4;";
        HeardNext x = Check.terrace(row + "dies=20;seed 7;");
        CHECK.due("SEED 7", 1, x.year(1, 2, 1));
        CHECK.due("SEEDS 7, 8", 1, x.year(1, 2, 2));
        CHECK.due("an hour", 0, x.year(1, 1, 2));
        CHECK.due("nothing WANTED", 20, x.year(0, 0, 20));
        CHECK.due("nothing happens", 0, x.count(2));
        HeardNext y = Check.terrace(row + "dies=22;seed 7;");
        CHECK.due("SEEDS 7, 8", 0, y.year(1, 2, 2));
        HeardNext z = Check.terrace(row + "dies=20;seed 9999;");
        CHECK.due("SEED 9999", 0, z.year(1, 2, 1));
        CHECK.due("SEEDS 9999, 10000", 1, z.year(1, 2, 2));
        CHECK.due("in time behind GRIEF", 2, z.year(1, 8, 2));
        HeardNext v = Check.terrace(row + "dies=20;seed 8;");
        CHECK.due("SEED 8, not 7", 0, v.year(1, 2, 1));
        HeardNext w = Check.terrace("house a 0 0;house b 4 0;hums=if hour<1 then 0 else 4;dies=41;seed 9999;");
        CHECK.due("SEEDS 9999, 10000: 16, 40", 0, w.year(1, 2, 2));
        CHECK.due("year(2, 1, 1)", -1, x.year(2, 1, 1));
        CHECK.due("year(-1, 1, 1)", -1, x.year(-1, 1, 1));
        CHECK.due("year(0, -1, 1)", -1, x.year(0, -1, 1));
        CHECK.due("year(0, 73, 1)", -1, x.year(0, 73, 1));
        CHECK.due("year(0, 1, 0)", -1, x.year(0, 1, 0));
        CHECK.due("year(0, 1, 21)", -1, x.year(0, 1, 21));
    }

    public static void main(String[] args) {
        loudest();
        warm();
        lives();
        warmth();
        thenAndQuiet();
        mourn();
        carryBest();
        needs();
        changeBest();
        off();
        year();
        CHECK.end();
    }
}
