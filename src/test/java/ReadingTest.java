/** Checks where another reading of a sentence, or what was kept from an earlier question, would answer otherwise. */
public final class ReadingTest {
    private static final Check CHECK = new Check();

    private static void vars() {
        CHECK.says("wants: how many PARTS are WANTED");
        HeardNext x = Check.terrace("house a 7 0;sends 0 3;turns=wants;hums=wants;dies=wants;keeps=part-wants;");
        for (int hour = 0; hour < 3; hour++) {
            CHECK.due("TURNS, had or not", 3, x.house(0, 7));
            CHECK.due("HUMS, had or not", 3, x.house(0, 8));
            CHECK.due("DIES, had or not", 3, x.house(0, 9));
            // PARTS 4 .. 7 are kept and turned by 3, PARTS 0 and 1 are hummed in
            CHECK.due("KEEPS, had or not", 131, x.passed(0, 240) & ~4);
            x.hours(1);
        }
        CHECK.due("two of the three were had", 3, x.house(0, 3));
    }

    private static void passedNow() {
        CHECK.says("What is PASSED of a PROGRAMME to a HOUSE in this hour");
        HeardNext x = Check.terrace(Check.houses(10, "0 0") + "turns=hour;");
        for (int h = 0; h < 10; h++) CHECK.due("hour 0, HOUSE " + h, 1, x.passed(h, 1));
        x.hours(3);
        for (int h = 0; h < 10; h++) CHECK.due("hour 3, HOUSE " + h, 8, x.passed(h, 1));
        HeardNext y = Check.terrace(Check.houses(3, "0 0") + "hums=day;keeps=0;");
        y.hours(23);
        CHECK.due("the last hour of day 0", 0, y.passed(2, 255));
        y.hours(1);
        CHECK.due("the first hour of day 1", 1, y.passed(2, 255));
    }

    private static void griefBehindASwitch() {
        CHECK.says("GRIEF that there is is an hour less");
        HeardNext x = Check.terrace("house a 0 0;dies=if hour<1 then 100 else 0;grief 3;sends 4 9;sends 5 6;");
        x.hours(1);
        x.turn(0, false);
        int[] due = {2, 1, 0, 0};
        for (int left : due) {
            x.hours(1);
            CHECK.due("OFF or not", left, x.house(0, 5));
        }
        CHECK.due("hour 5 it is", 5, x.count(2));
        CHECK.due("OFF in hour 4", 0, x.house(0, 2));
        x.turn(0, true);
        x.hours(1);
        CHECK.due("ON in hour 5, GRIEF gone", 6, x.house(0, 2));
    }

    private static void comesAskedAgain() {
        CHECK.says("had as now");
        HeardNext x = Check.terrace("house a 0 0;house b 1 0;turns=had;");
        x.send(1);
        x.hours(1);
        CHECK.due("HOUSE 1 had nothing", 1, x.comes(1, 1));
        x.carry(0, 1);
        CHECK.due("it was CARRIED there", 2, x.comes(1, 1));
        x.undo();
        CHECK.due("that is undone", 1, x.comes(1, 1));
        CHECK.says("WANTS, AGE, what was had go with them");
        HeardNext y = Check.terrace("house a 0 5;house b 0 3;turns=age;");
        CHECK.due("AGE 3", 8, y.comes(1, 1));
        y.change(0, 1);
        CHECK.due("AGE 5", 32, y.comes(1, 1));
        y.hold(0);
        y.undo();
        CHECK.due("AGE 3 once more", 8, y.comes(1, 1));
        y.restore(0);
        CHECK.due("gone on from AGE 5", 32, y.comes(1, 1));
        CHECK.says("A text with a FAULT changes nothing; else it is in place of the one ahead");
        Check.read(y, "house c 0 0;house");
        CHECK.due("a FAULT", 32, y.comes(1, 1));
        Check.read(y, "house c 0 0;house d 0 1;turns=age;");
        CHECK.due("AGE 1", 2, y.comes(1, 1));
    }

    private static void sentByHandIsNotInItsWay() {
        CHECK.says("all PARTS being SENT then");
        HeardNext x = Check.terrace("house a 255 0;house b 15 0;");
        x.send(1);
        for (int h = 0; h < 2; h++) {
            CHECK.due("BEST hour of " + h, 0, x.bestHour(h, 0));
            CHECK.due("TIMES of " + h, 1, x.times(h, -1));
            CHECK.due("this hour, for " + h, 0, x.times(h, 0));
            CHECK.due("LAST", 1, x.last(128));
            CHECK.due("COMES to " + h, 254, x.comes(h, 254));
        }
        CHECK.due("how many", 8, x.bestHour(0, 1));
        CHECK.due("how many", 4, x.bestHour(1, 1));
        CHECK.due("SEND", 15, x.sendFor(1));
        CHECK.due("APART", 256, x.apart(1));
    }

    /** PROGRAMME 3 is SENT for hour 5, which it is; else nothing is ever SENT, so that all there is to hear is this. */
    private static HeardNext sentByHand() {
        HeardNext x = Check.terrace("house a 1 0;house b 2 0;house c 4 0;");
        x.hours(5);
        x.send(3);
        return x;
    }

    private static void hoursFromNowOn() {
        CHECK.says("HOUSE 0 hears what is SENT in it (what was SENT by hand for it)");
        HeardNext x = sentByHand();
        for (int h = 0; h < 3; h++) {
            CHECK.due("WARMTH of " + h, h + 1, x.warmth(h));
            CHECK.due("QUIET of " + h, 9, x.quiet(h, 10));
            CHECK.due("IN " + h + " HOURS and one", 3, x.then(h, h + 1, 0));
            CHECK.due("WARM", 1, x.warm(h + 1));
            CHECK.due("YEAR", h < 2 ? 7 : 0, x.year(h, h + 1, 7));
        }
        CHECK.due("HOUSES that had all IN 1", 1, x.then(0, 1, 2));
        CHECK.due("HOUSES that had all IN 3", 2, x.then(0, 3, 2));
        CHECK.due("LOUDEST, how many", 2, x.loudest(9, 1));
        x.hours(1);
        CHECK.due("it was for that hour alone", -2, x.warmth(0));
        CHECK.due("one HOUSE hears it yet", 2, x.warmth(2));
        CHECK.says("CHANGE: having changed HOUSES now");
        // HOUSE 0 alone hears anything, and that in this hour
        HeardNext y = Check.terrace("house a 2 0;house b 1 0;keeps=0;");
        CHECK.due("nothing is SENT", -2, y.changeBest(0));
        y.send(1);
        CHECK.due("SENT by hand", 1, y.changeBest(0));
        CHECK.due("how many", 1, y.changeBest(1));
    }

    private static void setsAsTheyAre() {
        CHECK.says("a set that does not HEAR: 0");
        HeardNext x = sentByHand();
        x.turn(1, false);
        CHECK.due("IN 2 HOURS", 0, x.then(1, 2, 0));
        CHECK.due("IN 2 HOURS, had", 0, x.then(1, 2, 1));
        CHECK.due("WARM behind 2", 0, x.warm(2));
        CHECK.due("YEAR of 1", 0, x.year(1, 9, 20));
        CHECK.due("YEAR of 0", 20, x.year(0, 9, 20));
        CHECK.due("WARMTH of 2", -2, x.warmth(2));
        CHECK.due("QUIET of 2", 72, x.quiet(2, 72));
        x.turn(1, true);
        x.turn(2, false);
        CHECK.due("IN 3 HOURS", 0, x.then(2, 3, 0));
        CHECK.due("WARMTH of 1", 2, x.warmth(1));
    }

    private static void yearFromNowOn() {
        CHECK.says("YEAR: in how many of them a HOUSE had all that is WANTED there in n HOURS");
        HeardNext x = Check.terrace("house a 1 0;sends 0 1;");
        CHECK.due("hour 0 is to come", 0, x.year(0, 0, 5));
        CHECK.due("hour 0 goes by", 5, x.year(0, 1, 5));
        x.hours(1);
        CHECK.due("it was had", 5, x.year(0, 0, 5));
        HeardNext y = Check.terrace("house a 1 0;sends 0 1;");
        y.turn(0, false);
        y.hours(1);
        y.turn(0, true);
        CHECK.due("hour 0 has gone by unheard", 0, y.year(0, 23, 5));
        CHECK.due("hour 24", 5, y.year(0, 24, 5));
    }

    private static void warmthByItsSeed() {
        CHECK.says("there is DEATH if LOT 100 of the SEED and 16 * the hour, counted on, and the number is less than DIES");
        for (int seed = 0; seed < 30; seed++) {
            String text = "house a 0 0;sends 1 1;sends 4 1;dies=if hour<1 then 50 else 0;grief 2;seed " + seed + ";";
            HeardNext x = Check.terrace(text);
            HeardNext y = Check.terrace(text);
            int due = y.hours(1) == 1 && y.house(0, 5) == 0 ? 2 : 5;
            CHECK.due("WARMTH by SEED " + seed, due, x.warmth(0));
            CHECK.due("IN 2 HOURS by SEED " + seed, due == 2 ? 1 : 0, x.then(0, 2, 0));
            CHECK.due("MOURN by SEED " + seed, due == 2 ? 0 : 1, x.mourn(1));
            CHECK.due("WARM has no DEATHS", 1, x.warm(2));
        }
        // LOT 100 of SEED 0 and 0 is 95, of SEED 3 and 0 it is 48; GRIEF is over in hour 7, and hour 25 is the next one with a PROGRAMME
        CHECK.due("SEED 0", 2, Check.terrace("house a 0 0;sends 1 1;dies=if hour<1 then 50 else 0;").warmth(0));
        CHECK.due("SEED 3", 26, Check.terrace("house a 0 0;sends 1 1;dies=if day*24+hour<1 then 50 else 0;seed 3;").warmth(0));
    }

    private static void changeOfThoseWhoMoved() {
        CHECK.says("the two (10 * the lesser + the other)");
        HeardNext x = Check.terrace("house a 4 0;house b 2 0;house c 1 0;sends 0 1;keeps=0;");
        x.change(1, 2);
        x.change(0, 2);
        CHECK.due("who lives in 0", 1, x.house(0, 6));
        CHECK.due("who lives in 1", 2, x.house(1, 6));
        CHECK.due("HOUSES 0 and 1, as change takes them", 1, x.changeBest(0));
        CHECK.due("how many", 1, x.changeBest(1));
        x.change(0, 1);
        CHECK.due("they have", -2, x.changeBest(0));
        CHECK.says("what was had goes with them");
        // who lives in 0 had PART 0 and needs PART 1, who lives in 1 needs PART 2; PART 1 is to be heard in 1 alone
        HeardNext y = Check.terrace("house a 3 0;house b 4 0;keeps=0;hums=if day*24+hour<1 then 0 else 2;");
        y.send(1);
        y.hours(1);
        CHECK.due("had in 0", 1, y.house(0, 3));
        CHECK.due("who had PART 0 goes where PART 1 is hummed in", 1, y.changeBest(0));
    }

    private static void carryToOneWhoMovedIn() {
        CHECK.says("by which most PARTS WANTED there, not had yet, come");
        HeardNext x = Check.terrace("house a 0 0;house b 0 0;house c 1 0;");
        x.send(1);
        x.hours(1);
        x.send(1);
        x.hours(1);
        x.change(1, 2);
        // HOUSE 1 heard PART 0 ahead of who wants it there
        CHECK.due("what HOUSE 1 heard", 1, x.house(1, 2));
        CHECK.due("who lives there did not have it", 1, x.needs(1));
        CHECK.due("from 0 to 1", 1, x.carryBest(0));
        CHECK.due("how many", 1, x.carryBest(1));
    }

    private static void forgottenIsNotUndone() {
        CHECK.says("The last thing done (turn, send, carry, change, hours) is undone");
        HeardNext x = Check.terrace("house a 0 0;");
        x.send(5);
        x.tell(0, 5);
        CHECK.due("one was TOLD", 1, x.forget());
        CHECK.due("send can be undone yet", 1, x.count(10));
        CHECK.yes("undo", x.undo());
        CHECK.due("nothing is SENT", 0, x.count(4));
        CHECK.due("what was TOLD stays forgotten", 0, x.count(11));
        CHECK.no("undo", x.undo());
    }

    public static void main(String[] args) {
        vars();
        passedNow();
        griefBehindASwitch();
        comesAskedAgain();
        sentByHandIsNotInItsWay();
        hoursFromNowOn();
        setsAsTheyAre();
        yearFromNowOn();
        warmthByItsSeed();
        changeOfThoseWhoMoved();
        carryToOneWhoMovedIn();
        forgottenIsNotUndone();
        CHECK.end();
    }
}
