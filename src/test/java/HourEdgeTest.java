/** Part II of the Terms, sentence by sentence, at the edges that each names: LAWS, LOT, what is PASSED, AN HOUR, what is done by hand. */
public final class HourEdgeTest {
    private static final Check CHECK = new Check();
    /** The least int and the greatest, as a LAW of INTS of four digits can tell them. */
    private static final String LEAST = "(2048*1024*1024)";
    private static final String GREATEST = "(2048*1024*1024-1)";

    /** What a LAW tells at HOUSE 0 of one, by HUMS: 0 .. 255 as it is. */
    private static int law(String law) {
        return Check.terrace("house a 0 0;hums=" + law + ";").house(0, 8);
    }

    private static void hourAndDay() {
        CHECK.says("the hour of the day: its rest by 24; the day: it by 24");
        HeardNext x = Check.terrace("house a 0 0;hums=hour;dies=day;grief 1;");
        int[] steps = {0, 1, 22, 1, 1, 23, 1, 24, 72, 72, 72};
        int hour = 0;
        for (int step : steps) {
            hour += step;
            CHECK.due("hours(" + step + ")", hour, x.hours(step));
            CHECK.due("hour of the day of " + hour, hour % 24, x.house(0, 8));
            CHECK.due("count(3) of " + hour, hour % 24, x.count(3));
            CHECK.due("day of " + hour, hour / 24, x.house(0, 9));
        }
    }

    private static void firstIf() {
        CHECK.says("the E of the first if that holds (one less than the other), else the last one");
        CHECK.due("less by one", 3, law("if 4<5 then 3 else 9"));
        CHECK.due("alike", 9, law("if 5<5 then 3 else 9"));
        CHECK.due("greater by one", 9, law("if 6<5 then 3 else 9"));
        CHECK.due("below 0", 3, law("if 0-1<0 then 3 else 9"));
        CHECK.due("both below 0", 9, law("if 0-1<0-2 then 3 else 9"));
        CHECK.due("the least and the greatest", 3, law("if " + LEAST + "<" + GREATEST + " then 3 else 9"));
        CHECK.due("the greatest and the least", 9, law("if " + GREATEST + "<" + LEAST + " then 3 else 9"));
        CHECK.due("none", 7, law("7"));
        for (int holds = 0; holds <= 4; holds++) {
            StringBuilder four = new StringBuilder();
            for (int i = 0; i < 4; i++) four.append("if ").append(i < holds ? "1<1" : "1<2").append(" then ").append(10 + i).append(" else ");
            CHECK.due("of four the one with the number " + holds, 10 + holds, law(four + "14"));
        }
    }

    private static void deepest() {
        CHECK.says("as much waits as can: behind the most ifs, six ( within one another, a PART ahead of * and one ahead of + in each");
        String deep = "1+1*(1+1*(1+1*(1+1*(1+1*(1+1*(1+1*9))))))";
        CHECK.due("it alone", 16, law(deep));
        String ifs = ("if 5<" + "4 then 1 else ").repeat(4);
        CHECK.due("the last E", 16, law(ifs + deep));
        CHECK.due("both sides of <, and then", 16, law("if " + deep + "<1+" + deep + " then " + deep + " else 3"));
        CHECK.due("both sides of each <, and the last E", 16, law(("if " + deep + "<" + deep + " then 4 else ").repeat(3) + deep));
    }

    private static void arithmetic() {
        CHECK.says("ints of 32 bits that wrap");
        CHECK.due("the greatest and 1 more", 1, law("if " + GREATEST + "+1<0 then 1 else 2"));
        CHECK.due("the least and 1 less", 1, law("if 0<" + LEAST + "-1 then 1 else 2"));
        CHECK.due("65,536 times 65,536 and 5", 5, law("256*256*(256*256)+5"));
        // 9,996,000,599,960,001, whose lowest 32 bits are 1,089,432,001
        CHECK.due("9,999 to the fourth", 155, law("9999*9999*9999*9999/7000/1000"));
        CHECK.due("the least by -1", 1, law("if " + LEAST + "/(0-1)<0 then 1 else 2"));
        CHECK.due("the least by -1 is the least", 8, law("8+" + LEAST + "/(0-1)-" + LEAST));
        CHECK.says("/ rounded towards 0");
        CHECK.due("7/2", 3, law("7/2"));
        CHECK.due("-7/2", 7, law("10+(0-7)/2"));
        CHECK.due("7/-2", 7, law("10+7/(0-2)"));
        CHECK.due("-7/-2", 13, law("10+(0-7)/(0-2)"));
        CHECK.due("-1/2", 10, law("10+(0-1)/2"));
        CHECK.due("6/7", 10, law("10+6/7"));
        CHECK.due("0/7", 10, law("10+0/7"));
    }

    private static void dividedByNone() {
        CHECK.says("a LAW in which something that is looked at is divided by 0 is 0");
        for (String law : new String[] {"1/0", "0/0", "9+1/0", "9+0*(1/0)", "9-1/(1-1)", "(((9+1/door)))", "if 1/0<5 then 3 else 9",
            "if 0<5/0 then 3 else 9", "if 1<2 then 3/0 else 9", "if 2<1 then 3 else 9/0", "if 2<1 then 3 else if 1/0<2 then 4 else 9"}) {
            CHECK.due(law, 0, law(law));
        }
        CHECK.due("not looked at: behind then", 9, law("if 2<1 then 3/0 else 9"));
        CHECK.due("not looked at: behind else", 3, law("if 1<2 then 3 else 9/0"));
        CHECK.due("not looked at: a later if", 3, law("if 1<2 then 3 else if 1/0<2 then 4 else 9"));
        HeardNext x = Check.terrace("house a 0 0;keeps=1/door;turns=3/door;dies=90/door;");
        CHECK.due("KEEPS is 0: all is lost", 0, x.passed(0, 255));
        CHECK.due("TURNS is 0", 0, x.house(0, 7));
        CHECK.due("DIES is 0", 0, x.house(0, 9));
        // 1/part: PART 0 is lost, 1 is kept, all others are by 0
        CHECK.due("one PART alone", 2, Check.terrace("house a 0 0;keeps=1/part;").passed(0, 255));
        CHECK.due("by parts", 128, Check.terrace("house a 0 0;keeps=1;turns=7/parts;").passed(0, 1));
        CHECK.due("by parts, of none", 0, Check.terrace("house a 0 0;keeps=1;turns=7/parts;").passed(0, 0));
    }

    private static void vars() {
        CHECK.says("door: its number; many: how many HOUSES there are; wants: how many PARTS are WANTED; age");
        String ten = Check.houses(9, "0 0") + "house z 255 99;";
        for (int h = 0; h < 10; h++) CHECK.due("door " + h, h, Check.terrace(ten + "hums=door;").house(h, 8));
        CHECK.due("many: ten", 10, Check.terrace(ten + "hums=many;").house(0, 8));
        CHECK.due("many: one", 1, law("many"));
        CHECK.due("wants: none", 0, Check.terrace(ten + "hums=wants;").house(0, 8));
        CHECK.due("wants: eight", 8, Check.terrace(ten + "hums=wants;").house(9, 8));
        CHECK.due("age: 0", 0, Check.terrace(ten + "hums=age;").house(0, 8));
        CHECK.due("age: 99", 99, Check.terrace(ten + "hums=age;").house(9, 8));
        CHECK.says("had: how many of those WANTED were heard there since who lives there does");
        HeardNext x = Check.terrace("house a 255 0;house b 6 0;hums=had*10;keeps=0;");
        CHECK.due("none", 0, x.house(0, 8));
        x.send(0);
        x.hours(1);
        CHECK.due("none of nothing", 0, x.house(0, 8));
        x.send(127);
        x.hours(1);
        CHECK.due("seven of eight", 70, x.house(0, 8));
        x.send(129);
        x.hours(1);
        CHECK.due("all eight, one heard twice", 80, x.house(0, 8));
        CHECK.due("all lost on the way", 0, x.house(1, 8));
        x.carry(0, 1);
        CHECK.due("129 is not WANTED", 0, x.house(1, 8));
        x.change(0, 1);
        CHECK.due("had goes with who moves", 80, x.house(1, 8));
        CHECK.due("who came has had nothing", 0, x.house(0, 8));
    }

    private static void partsAndPart() {
        CHECK.says("parts: how many PARTS there are in what is passed to it, ahead of all loss (0 for HUMS, DIES)");
        HeardNext x = Check.terrace("house a 0 0;keeps=part-3;turns=parts;hums=parts*99;dies=parts+7;");
        CHECK.due("one, lost: nothing is turned", 0, x.passed(0, 1));
        CHECK.due("eight, held to 7: PARTS 4 .. 7 become 3 .. 6", 120, x.passed(0, 255));
        CHECK.due("five, of which four are lost: PART 4 becomes 1", 2, x.passed(0, 31));
        CHECK.due("seven: PARTS 5 .. 7 become 4 .. 6", 112, x.passed(0, 239));
        CHECK.due("HUMS", 0, x.house(0, 8));
        CHECK.due("DIES", 7, x.house(0, 9));
        CHECK.says("part: which PART (for KEEPS; 0 else)");
        for (int p = 0; p < 8; p++) {
            HeardNext y = Check.terrace("house a 0 0;keeps=if part<" + p + " then 0 else if " + p + "<part then 0 else 1;turns=part;hums=part;dies=part;");
            CHECK.due("PART " + p + " alone", 1 << p, y.passed(0, 255));
            for (int what = 7; what <= 9; what++) CHECK.due("house(0, " + what + ")", 0, y.house(0, what));
        }
        CHECK.due("all lost but one: parts of all", 1, Check.terrace("house a 0 0;keeps=if parts<8 then 0 else 1-part;").passed(0, 255));
        CHECK.due("seven: parts of seven", 0, Check.terrace("house a 0 0;keeps=if parts<8 then 0 else 1-part;").passed(0, 254));
    }

    private static void held() {
        CHECK.says("KEEPS: a PART is kept if that tells more than 0");
        String[] laws = {"0", "1", "0-1", "9999", GREATEST, LEAST, GREATEST + "+1"};
        int[] kept = {0, 90, 0, 90, 90, 0, 0};
        for (int i = 0; i < laws.length; i++) CHECK.due(laws[i], kept[i], Check.terrace("house a 0 0;keeps=" + laws[i] + ";").passed(0, 90));
        edgesOf("TURNS, held to 0 .. 7", "turns", 7, 7);
        edgesOf("HUMS, held to 0 .. 255", "hums", 8, 255);
        edgesOf("DIES, held to 0 .. 100", "dies", 9, 100);
    }

    private static void edgesOf(String sentence, String word, int what, int most) {
        CHECK.says(sentence);
        String[] laws = {"0-1", LEAST, "0", "1", most - 1 + "", most + "", most + 1 + "", "9999", GREATEST};
        int[] due = {0, 0, 0, 1, most - 1, most, most, most, most};
        for (int i = 0; i < laws.length; i++) CHECK.due(word + "=" + laws[i], due[i], Check.terrace("house a 0 0;" + word + "=" + laws[i] + ";").house(0, what));
    }

    /** LOT 100 with numbers that do not wrap of themselves, each held to 32 bits by hand. */
    private static int lot(long seed, long which) {
        long bits = 0xffffffffL;
        long h = seed & bits;
        for (long it : new long[] {137, which}) {
            h = java.math.BigInteger.valueOf(h ^ it).multiply(java.math.BigInteger.valueOf(1103515245)).add(java.math.BigInteger.valueOf(12345))
                .and(java.math.BigInteger.valueOf(bits)).longValueExact();
            h = h ^ h / 32768;
        }
        return (int) (h / 2 % 100);
    }

    private static void lots() {
        CHECK.says("there is DEATH if LOT 100 of the SEED and 16 * the hour, counted on, and the number is less than DIES");
        for (int seed : new int[] {0, 1, 7, 137, 4321, 9999}) {
            HeardNext x = Check.terrace(Check.houses(10, "0 0") + "dies=37;grief 1;seed " + seed + ";");
            int mourning = 0;
            int deaths = 0;
            for (int hour = 0; hour < 150; hour++) {
                int next = 0;
                for (int h = 0; h < 10; h++) {
                    if ((mourning >> h & 1) == 0 && lot(seed, 16L * hour + h) < 37) next |= 1 << h;
                }
                mourning = next;
                deaths += Integer.bitCount(next);
                x.hours(1);
                CHECK.due("SEED " + seed + ", GRIEF behind hour " + hour, mourning, x.count(6));
            }
            CHECK.due("SEED " + seed + ", DEATHS", deaths, x.count(13));
        }
        CHECK.says("is less than DIES");
        for (int h = 0; h < 10; h++) {
            int lot = lot(5, h);
            String row = Check.houses(10, "0 0") + "seed 5;dies=";
            HeardNext x = Check.terrace(row + lot + ";");
            x.hours(1);
            CHECK.due("alike is not less, at " + h, 0, x.house(h, 5));
            HeardNext y = Check.terrace(row + (lot + 1) + ";");
            y.hours(1);
            CHECK.due("less by one, at " + h, 6, y.house(h, 5));
        }
        CHECK.says("DIES, held to 0 .. 100: at 0 nobody dies, at 100 each does");
        HeardNext none = Check.terrace(Check.houses(10, "0 0") + "dies=0;seed 3;");
        none.hours(72);
        CHECK.due("at 0", 0, none.count(13));
        HeardNext all = Check.terrace(Check.houses(10, "0 0") + "dies=100;grief 1;seed 3;");
        all.hours(72);
        CHECK.due("at 100, each other hour", 360, all.count(13));
    }

    private static void turned() {
        CHECK.says("PART p becomes the rest of p and what TURNS tells, by 8");
        for (int by = 0; by < 8; by++) {
            HeardNext x = Check.terrace("house a 0 0;turns=" + by + ";");
            for (int p = 0; p < 8; p++) CHECK.due("PART " + p + " by " + by, 1 << (p + by) % 8, x.passed(0, 1 << p));
            CHECK.due("none by " + by, 0, x.passed(0, 0));
            CHECK.due("all by " + by, 255, x.passed(0, 255));
        }
        CHECK.says("PARTS that HUMS tells are there, too");
        HeardNext y = Check.terrace("house a 0 0;turns=1;hums=3;");
        CHECK.due("of nothing", 3, y.passed(0, 0));
        CHECK.due("there already", 3, y.passed(0, 1));
        CHECK.due("not turned", 7, y.passed(0, 2));
        CHECK.due("not lost", 3, Check.terrace("house a 0 0;keeps=0;hums=3;").passed(0, 255));
    }

    private static void hears() {
        CHECK.says("A set HEARS if it is ON, and there is no GRIEF in the HOUSE");
        HeardNext x = Check.terrace(Check.houses(4, "0 0") + "dies=if door<2 then 0 else 100;sends 1 9;hums=2;");
        x.turn(1, false);
        x.turn(3, false);
        x.hours(1);
        CHECK.due("GRIEF", 12, x.count(6));
        CHECK.due("ON", 5, x.count(5));
        CHECK.due("HEAR", 1, x.count(15));
        CHECK.says("a set that does not HEAR: 0");
        x.hours(1);
        int[] heard = {9, 0, 0, 0};
        for (int h = 0; h < 4; h++) CHECK.due("heard at " + h, heard[h], x.house(h, 2));
        CHECK.says("there is DEATH, whether a set is ON or not");
        CHECK.due("DEATHS", 2, x.count(13));
    }

    private static void anHour() {
        CHECK.says("HOUSE 0 hears what is SENT in it, nothing lost");
        HeardNext x = Check.terrace("house a 255 0;house b 255 0;keeps=0;turns=3;hums=64;sends 0 255;");
        x.hours(1);
        CHECK.due("HOUSE 0, all", 255, x.house(0, 2));
        x.hours(1);
        CHECK.due("HOUSE 0, nothing SENT", 0, x.house(0, 2));
        CHECK.due("HOUSE 1, the hum", 64, x.house(1, 2));
        CHECK.says("SENDS of the hour, or what was SENT by hand for it");
        HeardNext y = Check.terrace("house a 0 0;house b 0 0;sends 0 5;sends 23 6;");
        y.send(0);
        y.hours(1);
        CHECK.due("0 in place of 5", 0, y.house(0, 2));
        y.hours(23);
        CHECK.due("hour 23", 6, y.house(0, 2));
        y.hours(1);
        CHECK.due("hour 24, by SENDS again", 5, y.house(0, 2));
        y.send(9);
        y.hours(2);
        CHECK.due("by hand for one hour alone", 0, y.house(0, 2));
        CHECK.due("passed on", 9, y.house(1, 2));
        y.turn(0, false);
        y.send(8);
        y.hours(1);
        CHECK.due("OFF", 0, y.house(0, 2));
        CHECK.due("its hour has gone by", 0, y.count(4));
        y.turn(0, true);
        y.hours(1);
        CHECK.due("and is not heard later", 0, y.house(0, 2));
        CHECK.says("each other HOUSE what is PASSED to it of what the one ahead of it heard in the hour ahead");
        HeardNext z = Check.terrace(Check.houses(10, "0 0") + "turns=1;sends 0 1;sends 1 16;");
        for (int hour = 0; hour < 12; hour++) {
            z.hours(1);
            for (int h = 0; h < 10; h++) {
                int due = h == hour ? 1 << h % 8 : h == hour - 1 ? 1 << (h + 4) % 8 : 0;
                CHECK.due("HOUSE " + h + ", hour " + hour, due, z.house(h, 2));
            }
        }
    }

    private static void asItBegan() {
        CHECK.says("all by how it was as it began (LAWS, too)");
        HeardNext x = Check.terrace("house a 1 0;house b 3 0;hums=if had<1 then 1 else if had<2 then 2 else 4;dies=if had<1 then 0 else 100;sends 0 1;");
        x.hours(1);
        CHECK.due("heard", 1, x.house(1, 2));
        CHECK.due("had", 1, x.house(1, 3));
        CHECK.due("nobody dies yet", 0, x.count(13));
        x.hours(1);
        CHECK.due("heard: the hum of 1, and 1 passed", 3, x.house(1, 2));
        CHECK.due("now they do", 2, x.count(13));
        CHECK.due("GRIEF, both", 3, x.count(6));
        CHECK.says("PARTS heard that are WANTED there were had");
        HeardNext y = Check.terrace("house a 0 0;house b 255 0;house c 129 0;");
        y.send(255);
        y.hours(3);
        CHECK.due("nothing WANTED", 0, y.house(0, 3));
        CHECK.due("all WANTED", 255, y.house(1, 3));
        CHECK.due("some WANTED", 129, y.house(2, 3));
        y.hours(1);
        CHECK.due("had stays had", 129, y.house(2, 3));
    }

    private static void griefEnds() {
        CHECK.says("GRIEF that there is is an hour less; where there is none, there is DEATH; GRIEF for so many hours from the next one on");
        for (int grief : new int[] {1, 2, 6, 99}) {
            HeardNext x = Check.terrace("house a 1 0;dies=100;grief " + grief + ";");
            // no object is asked more than 512 times
            for (int hour = 0; hour <= 101; hour++) {
                boolean dies = hour % (grief + 1) == 0;
                x.send(1);
                x.hours(1);
                CHECK.due("GRIEF " + grief + ", heard in hour " + hour, dies ? 1 : 0, x.house(0, 2));
                CHECK.due("GRIEF " + grief + ", behind hour " + hour, grief - hour % (grief + 1), x.house(0, 5));
            }
            CHECK.due("GRIEF " + grief + ", DEATHS", 101 / (grief + 1) + 1, x.count(13));
        }
    }

    private static void byHand() {
        CHECK.says("what a HOUSE hears now is CARRIED to another one, and is what that one heard, too (had, too; its set ON or not)");
        HeardNext x = Check.terrace("house a 0 0;house b 6 0;house c 12 0;house d 255 0;dies=if door<3 then 0 else 100;");
        x.send(7);
        x.hours(1);
        x.turn(2, false);
        CHECK.due("to a set that is OFF", 7, x.carry(0, 2));
        CHECK.due("heard", 7, x.house(2, 2));
        CHECK.due("had", 4, x.house(2, 3));
        CHECK.due("to a HOUSE in GRIEF", 7, x.carry(0, 3));
        CHECK.due("had", 7, x.house(3, 3));
        CHECK.due("from it to HOUSE 0", 7, x.carry(3, 0));
        CHECK.due("nothing", 0, x.carry(1, 0));
        CHECK.due("is what it heard", 0, x.house(0, 2));
        x.carry(2, 1);
        x.turn(2, true);
        x.hours(1);
        CHECK.due("goes on from there", 7, x.house(2, 2));
        CHECK.due("had", 4, x.house(2, 3));
        CHECK.says("two change HOUSES (WANTS, AGE, what was had, NAME go with them)");
        HeardNext y = Check.terrace("house a 1 10;house b 6 20;house c 12 30;dies=if door<1 then 100 else 0;");
        y.send(5);
        y.hours(1);
        y.turn(2, false);
        y.carry(0, 2);
        y.change(2, 0);
        int[][] due = {{12, 30, 5, 4, 1, 6, 2}, {6, 20, 0, 0, 1, 0, 1}, {1, 10, 5, 1, 0, 0, 0}};
        for (int h = 0; h < 3; h++) {
            for (int what = 0; what < 7; what++) CHECK.due("house(" + h + ", " + what + ")", due[h][what], y.house(h, what));
        }
        y.change(0, 2);
        CHECK.due("and back", 0, y.count(17));
    }

    public static void main(String[] args) {
        hourAndDay();
        firstIf();
        deepest();
        arithmetic();
        dividedByNone();
        vars();
        partsAndPart();
        held();
        lots();
        turned();
        hears();
        anHour();
        asItBegan();
        griefEnds();
        byHand();
        CHECK.end();
    }
}
