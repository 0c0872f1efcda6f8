/** Promises 6 to 13, 39, 40 and 43 to 45, sentence by sentence, at the edges that each names; what is refused is in RefusedTest. */
public final class DoneEdgeTest {
    private static final Check CHECK = new Check();
    private static final String ROW = "house a 3 20;house b 5 33;house c 14 40;";

    private static void house() {
        CHECK.says("7 TURNS, 8 HUMS, 9 DIES as of now (parts: of what the one ahead of it heard last, HOUSE 0: 0)");
        HeardNext x = Check.terrace("house a 0 0;house b 0 0;keeps=0;turns=parts+hour;hums=parts+hour;dies=parts+hour;");
        CHECK.due("nothing heard", 0, x.house(1, 7));
        x.send(31);
        x.hours(1);
        CHECK.due("five PARTS and an hour", 6, x.house(1, 7));
        CHECK.due("HOUSE 0: no PARTS", 1, x.house(0, 7));
        CHECK.due("HUMS: no PARTS", 1, x.house(1, 8));
        CHECK.due("DIES: no PARTS", 1, x.house(1, 9));
        x.turn(1, false);
        CHECK.due("whether its set is ON or not", 6, x.house(1, 7));
        x.carry(1, 0);
        CHECK.due("the one ahead has heard nothing, by what was CARRIED", 1, x.house(1, 7));
        CHECK.says("4: 1 ON, 0 OFF");
        CHECK.due("ON", 1, x.house(0, 4));
        CHECK.due("OFF", 0, x.house(1, 4));
        CHECK.says("5 GRIEF: for how many hours more");
        HeardNext y = Check.terrace("house a 0 0;dies=100;grief 2;");
        int[] due = {0, 2, 1, 0, 2, 1, 0};
        for (int hour = 0; hour < due.length; hour++) {
            CHECK.due("hour " + hour, due[hour], y.house(0, 5));
            y.hours(1);
        }
    }

    private static void passed() {
        CHECK.says("whether its set HEARS or not (HOUSE 0 asked as any other, by its LAWS)");
        HeardNext x = Check.terrace("house a 0 0;house b 0 0;keeps=4-part;turns=door+1;hums=128;dies=100;");
        CHECK.due("HOUSE 0", 30 | 128, x.passed(0, 255));
        CHECK.due("HOUSE 1", 60 | 128, x.passed(1, 255));
        CHECK.due("PROGRAMME 0", 128, x.passed(1, 0));
        x.turn(0, false);
        x.turn(1, false);
        x.hours(1);
        CHECK.due("OFF and in GRIEF", 30 | 128, x.passed(0, 255));
        CHECK.due("OFF and in GRIEF", 60 | 128, x.passed(1, 255));
        CHECK.says("in this hour");
        HeardNext y = Check.terrace("house a 0 0;hums=hour+day*32;");
        y.hours(23);
        CHECK.due("hour 23", 23, y.passed(0, 0));
        y.hours(1);
        CHECK.due("hour 24", 32, y.passed(0, 0));
    }

    private static void turnAndSend() {
        CHECK.says("Switched ON, or OFF: true; false, and nothing happens: it is so");
        HeardNext x = Check.terrace(ROW);
        CHECK.no("ON already", x.turn(0, true));
        CHECK.yes("OFF", x.turn(0, false));
        CHECK.no("OFF already", x.turn(0, false));
        CHECK.yes("ON", x.turn(0, true));
        CHECK.no("ON already", x.turn(0, true));
        CHECK.due("two things were done", 2, x.count(10));
        CHECK.says("SENT for this hour (0 .. 255): true");
        CHECK.yes("send(0)", x.send(0));
        CHECK.yes("send(255)", x.send(255));
        CHECK.due("the last one", 255, x.count(4));
        CHECK.yes("once more", x.send(255));
        CHECK.due("a thing done, all the same", 5, x.count(10));
        x.hours(0);
        CHECK.due("no hour went by", 255, x.count(4));
        x.hours(1);
        CHECK.due("its hour went by", 0, x.count(4));
        CHECK.due("heard", 255, x.house(0, 2));
    }

    private static void carryAndChange() {
        CHECK.says("CARRIED: what it is");
        HeardNext x = Check.terrace(ROW);
        CHECK.due("nothing was heard", 0, x.carry(0, 1));
        CHECK.due("a thing done, all the same", 1, x.count(10));
        x.send(255);
        x.hours(1);
        CHECK.due("all PARTS", 255, x.carry(0, 2));
        CHECK.due("and on", 255, x.carry(2, 1));
        CHECK.due("had of what is WANTED", 5, x.house(1, 3));
        CHECK.says("They change HOUSES: true");
        CHECK.yes("the lesser first", x.change(0, 2));
        CHECK.yes("the greater first", x.change(2, 0));
        CHECK.due("as it was", 0, x.count(17));
        CHECK.yes("one", x.change(0, 1));
        CHECK.yes("and another", x.change(1, 2));
        CHECK.due("all three moved", 7, x.count(17));
        CHECK.due("who lives in 0", 1, x.house(0, 6));
        CHECK.due("who lives in 1", 2, x.house(1, 6));
        CHECK.due("who lives in 2", 0, x.house(2, 6));
    }

    private static void hours() {
        CHECK.says("n HOURS (0 .. 72; 0 is no thing done) go by: which it is, counted on");
        HeardNext x = Check.terrace(ROW);
        CHECK.due("hours(0)", 0, x.hours(0));
        CHECK.due("hours(1)", 1, x.hours(1));
        CHECK.due("hours(72)", 73, x.hours(72));
        CHECK.due("hours(0)", 73, x.hours(0));
        CHECK.due("two things", 2, x.count(10));
        CHECK.yes("undo of 72 at once", x.undo());
        CHECK.due("the hour", 1, x.count(2));
        CHECK.says("AN HOUR: n at once are as n one by one");
        String text = Check.houses(5, "90 60") + "keeps=part+1-had;turns=day+door;hums=hour;dies=door*10;grief 3;seed 77;sends 3 129;sends 20 90;";
        HeardNext once = Check.terrace(text);
        HeardNext singly = Check.terrace(text);
        once.hours(72);
        for (int i = 0; i < 72; i++) singly.hours(1);
        for (int h = 0; h < 5; h++) {
            for (int what = 0; what < 10; what++) CHECK.due("house(" + h + ", " + what + ")", singly.house(h, what), once.house(h, what));
        }
        CHECK.due("DEATHS", singly.count(13), once.count(13));
    }

    private static void undo() {
        CHECK.says("The last thing done (turn, send, carry, change, hours) is undone: true; false: there is none");
        HeardNext x = Check.terrace(ROW);
        CHECK.no("nothing was done", x.undo());
        x.hold(0);
        x.tell(0, 1);
        x.feed(0, 0, 0, 0, 0);
        x.hours(0);
        x.forget();
        x.comes(0, 1);
        CHECK.no("none of these is a thing done", x.undo());
        CHECK.due("the tape is as it was fed", 20, x.count(9));
        x.send(5);
        CHECK.yes("send is", x.undo());
        CHECK.no("an undo is none", x.undo());
        CHECK.due("SENT no more", 0, x.count(4));
        CHECK.says("false: there is none (the last 40 can be)");
        HeardNext y = Check.terrace(ROW);
        for (int i = 1; i <= 40; i++) {
            y.send(i);
            CHECK.due("things", i, y.count(10));
        }
        for (int i = 39; i >= 1; i--) {
            CHECK.yes("undo", y.undo());
            CHECK.due("SENT", i, y.count(4));
        }
        CHECK.yes("the fortieth", y.undo());
        CHECK.due("SENT", 0, y.count(4));
        CHECK.no("none is left", y.undo());
        HeardNext z = Check.terrace(ROW);
        for (int i = 1; i <= 41; i++) z.send(i);
        CHECK.due("things of 41", 40, z.count(10));
        for (int i = 40; i >= 1; i--) {
            CHECK.yes("undo", z.undo());
            CHECK.due("SENT", i, z.count(4));
        }
        CHECK.no("the first of 41 stays", z.undo());
        CHECK.due("SENT", 1, z.count(4));
        CHECK.says("the last 40 can be: however often some are undone and others done");
        HeardNext w = Check.terrace(ROW);
        for (int i = 1; i <= 55; i++) w.send(i);
        for (int i = 0; i < 30; i++) w.undo();
        CHECK.due("SENT", 25, w.count(4));
        for (int i = 101; i <= 135; i++) w.send(i);
        CHECK.due("things", 40, w.count(10));
        for (int i = 134; i >= 101; i--) {
            w.undo();
            CHECK.due("SENT", i, w.count(4));
        }
        for (int i = 25; i >= 20; i--) {
            CHECK.yes("undo", w.undo());
            CHECK.due("SENT", i, w.count(4));
        }
        CHECK.no("none is left", w.undo());
    }

    /** Each thing done, and all that it changed, seen again as it was. */
    private static void undoneWhole() {
        CHECK.says("The last thing done is undone: all of it");
        HeardNext x = Check.terrace(ROW + "sends 0 7;dies=door*40;hums=door;seed 3;");
        HeardNext y = Check.terrace(ROW + "sends 0 7;dies=door*40;hums=door;seed 3;");
        x.hours(3);
        y.hours(3);
        java.util.List<Integer> asItWas = Check.seen(y);
        for (int thing = 0; thing < 5; thing++) {
            switch (thing) {
                case 0: x.turn(1, false); break;
                case 1: x.send(99); break;
                case 2: x.carry(1, 0); break;
                case 3: x.change(0, 2); break;
                default: x.hours(72);
            }
            CHECK.no("thing " + thing + " was done", asItWas.equals(Check.seen(x)));
            CHECK.yes("undo", x.undo());
            CHECK.yes("thing " + thing + " is undone", asItWas.equals(Check.seen(x)));
        }
        CHECK.says("It goes on from what a SLOT holds: all of it");
        x.hold(1);
        x.change(0, 2);
        x.change(0, 1);
        x.turn(2, false);
        x.hours(9);
        x.restore(1);
        for (int h = 0; h < 3; h++) {
            for (int what = 0; what < 10; what++) CHECK.due("house(" + h + ", " + what + ")", y.house(h, what), x.house(h, what));
        }
    }

    private static void tell() {
        CHECK.says("It is TOLD: its number; NONE, and nothing happens: 20 are there");
        HeardNext x = Check.terrace(ROW);
        x.turn(2, false);
        CHECK.due("to a set that is OFF", 0, x.tell(2, 0));
        CHECK.due("PROGRAMME 255", 1, x.tell(0, 255));
        for (int i = 2; i < 20; i++) CHECK.due("tell", i, x.tell(0, i));
        CHECK.due("a 21st", -1, x.tell(0, 255));
        CHECK.due("TOLD", 20, x.count(11));
        CHECK.due("the last that was TOLD is not lost", 0, x.sent(20, 0));
        CHECK.due("the first two", 1, x.sent(2, 0));
        CHECK.says("All that was TOLD is forgotten: how many there were");
        CHECK.due("twenty", 20, x.forget());
        CHECK.due("none", 0, x.forget());
        CHECK.due("KNOWN by 1 no more", -1, x.sent(1, 0));
        CHECK.due("from 0 on again", 0, x.tell(1, 0));
        CHECK.due("one", 1, x.forget());
        CHECK.says("20 at most, whatever is undone, held, gone on from");
        x.tell(0, 7);
        x.undo();
        x.hold(0);
        x.tell(0, 7);
        x.restore(0);
        CHECK.due("TOLD", 2, x.count(11));
    }

    private static void hold() {
        CHECK.says("All that goes on is held in a SLOT (0 .. 2): true");
        HeardNext x = Check.terrace(ROW + "sends 0 7;dies=100;");
        CHECK.due("none holds", 0, x.count(12));
        CHECK.yes("hold(0)", x.hold(0));
        x.hours(1);
        CHECK.yes("hold(1)", x.hold(1));
        x.hours(1);
        CHECK.yes("hold(2)", x.hold(2));
        CHECK.due("all three hold", 3, x.count(12));
        CHECK.yes("hold(2) anew", x.hold(2));
        CHECK.due("all three hold", 3, x.count(12));
        CHECK.due("no thing done", 2, x.count(10));
        CHECK.says("It goes on from what a SLOT holds (that stays there; nothing can be undone then): true");
        for (int again = 0; again < 2; again++) {
            for (int slot = 2; slot >= 0; slot--) {
                CHECK.yes("restore(" + slot + ")", x.restore(slot));
                CHECK.due("the hour", slot, x.count(2));
                CHECK.due("DEATHS", slot == 0 ? 0 : 3, x.count(13));
                CHECK.due("GRIEF", slot == 0 ? 0 : 7 - slot, x.house(1, 5));
                CHECK.due("heard", slot == 1 ? 7 : 0, x.house(0, 2));
                CHECK.due("had", slot == 0 ? 0 : 3, x.house(0, 3));
                CHECK.due("nothing to undo", 0, x.count(10));
                CHECK.no("undo()", x.undo());
                x.turn(0, false);
                x.change(1, 2);
                x.hours(5);
            }
        }
        CHECK.says("All that goes on: what was SENT by hand, sets, who lives where");
        HeardNext y = Check.terrace(ROW);
        y.send(99);
        y.turn(1, false);
        y.change(0, 2);
        y.hold(1);
        y.hours(9);
        y.turn(1, true);
        y.change(0, 1);
        y.restore(1);
        CHECK.due("SENT", 99, y.count(4));
        CHECK.due("ON", 5, y.count(5));
        CHECK.due("who", 5, y.count(17));
        y.hours(1);
        CHECK.yes("what is done then is undone", y.undo());
        CHECK.due("the hour", 0, y.count(2));
        CHECK.says("(not what is TOLD, nor the tape)");
        y.tell(0, 3);
        y.feed(0, 0, 0, 0, 0);
        y.restore(1);
        CHECK.due("TOLD", 1, y.count(11));
        CHECK.due("tape", 20, y.count(9));
        CHECK.says("SLOTS hold nothing (behind a text)");
        y.back(20);
        y.read();
        for (int slot = 0; slot < 3; slot++) CHECK.no("restore(" + slot + ")", y.restore(slot));
        CHECK.due("none holds", 0, y.count(12));
    }

    private static void count() {
        CHECK.says("count at its least and its most");
        String ten = Check.houses(10, "255 0");
        HeardNext x = Check.terrace(ten + "sends 0 255;".repeat(8) + "dies=100;grief 1;");
        int[] begun = {10, 8, 0, 0, 255, 1023, 0, 0, 0, 0, 0, 0, 0, 0, 0, 1023, 0, 0};
        for (int what = 0; what < begun.length; what++) CHECK.due("as it begins, count(" + what + ")", begun[what], x.count(what));
        x.hours(1);
        for (int h = 1; h < 10; h++) {
            x.carry(0, h);
            x.change(h - 1, h);
            x.turn(h, false);
        }
        x.turn(0, false);
        for (int slot = 0; slot < 3; slot++) x.hold(slot);
        for (int i = 0; i < 20; i++) x.tell(0, 0);
        for (int i = 0; i < 12; i++) x.send(i);
        for (int i = 0; i < 100; i++) x.feed(0, 0, 0, 0, 0);
        // who lived in 0 moves on to 9, and each CARRIED all to the one whom it has not reached yet
        int[] full = {10, 8, 1, 1, 11, 0, 1023, 1023, 1023, 2000, 40, 20, 3, 10, 80, 0, 80, 1023};
        for (int what = 0; what < full.length; what++) CHECK.due("full, count(" + what + ")", full[what], x.count(what));
        CHECK.says("3 the hour of the day");
        HeardNext y = Check.terrace("house a 0 0;");
        y.hours(23);
        CHECK.due("23", 23, y.count(3));
        y.hours(1);
        CHECK.due("24", 0, y.count(3));
        CHECK.due("counted on", 24, y.count(2));
        CHECK.says("7 HOUSES that had all that is WANTED there");
        HeardNext z = Check.terrace("house a 0 0;house b 3 0;house c 0 0;");
        CHECK.due("nothing is WANTED", 5, z.count(7));
        z.send(1);
        z.hours(2);
        CHECK.due("one of two", 5, z.count(7));
        z.send(2);
        z.hours(2);
        CHECK.due("both", 7, z.count(7));
        CHECK.says("17 HOUSES in which another one lives than at first");
        z.change(0, 2);
        CHECK.due("two", 5, z.count(17));
        z.change(2, 0);
        CHECK.due("as at first", 0, z.count(17));
    }

    public static void main(String[] args) {
        house();
        passed();
        turnAndSend();
        carryAndChange();
        hours();
        undo();
        undoneWhole();
        tell();
        hold();
        count();
        CHECK.end();
    }
}
