/** Promises 1 to 5: a new object, the tape, the text and its faults. */
public final class TextTest {
    private static final Check CHECK = new Check();

    private static void reads(String text, int fault, int place) {
        CHECK.reads(text, fault, place);
    }

    private static String times(int n, String text) {
        return text.repeat(n);
    }

    private static String houses(int n) {
        return Check.houses(n, "1 2");
    }

    private static void newObject() {
        HeardNext x = new HeardNext();
        for (int what = 0; what <= 17; what++) CHECK.due("new count(" + what + ")", 0, x.count(what));
        CHECK.due("new place()", -1, x.place());
        CHECK.no("new undo()", x.undo());
        CHECK.due("new house(0, 0)", -1, x.house(0, 0));
        CHECK.due("NONE", -1, HeardNext.NONE);
    }

    private static void feedAndBack() {
        HeardNext x = new HeardNext();
        for (int i = 1; i <= 100; i++) CHECK.due("feed " + i, 20 * i, x.feed(0x20202020, 0x20202020, 0x20202020, 0x20202020, 0x20202020));
        CHECK.due("feed beyond", -1, x.feed(0, 0, 0, 0, 0));
        CHECK.due("tape", 2000, x.count(9));
        CHECK.due("back(0)", 2000, x.back(0));
        CHECK.due("back(-1)", -1, x.back(-1));
        CHECK.due("back(2001)", -1, x.back(2001));
        CHECK.due("back(19)", 1981, x.back(19));
        CHECK.due("feed, one too many", -1, x.feed(0, 0, 0, 0, 0));
        CHECK.due("back(1)", 1980, x.back(1));
        CHECK.due("feed, just so many", 2000, x.feed(0x20202020, 0x20202020, 0x20202020, 0x20202020, 0x20202020));
        CHECK.due("back(2000)", 0, x.back(2000));
        CHECK.due("back of nothing", -1, x.back(1));
        CHECK.due("back(min)", -1, x.back(Integer.MIN_VALUE));
        // "house a 7 9; seed 3;": the highest byte of a first
        CHECK.due("feed", 20, x.feed(0x686f7573, 0x65206120, 0x3720393b, 0x20736565, 0x6420333b));
        CHECK.due("read", 0, x.read());
        CHECK.due("house", 7, x.house(0, 0));
        CHECK.due("age", 9, x.house(0, 1));
        CHECK.due("read of an empty tape", 0, x.read());
        CHECK.due("houses behind it", 0, x.count(0));
        // all bits of all ints come onto the tape: 0xff is no TOKEN
        x.feed(0x20202020, 0x20202020, 0x20202020, 0x20202020, 0x202020ff);
        CHECK.due("read of byte 255", 1, x.read());
        CHECK.due("place of byte 255", 19, x.place());
    }

    private static void tokens() {
        reads("", 0, -1);
        reads(" \t\n\r ", 0, -1);
        reads("house a 1 2;", 0, -1);
        reads("house\ta\n1\r2 ;\n", 0, -1);
        reads("house a1 2;", 0, -1);
        reads("housea 1 2;", 1, 0);
        reads("house abcdefgh 1 2;", 0, -1);
        reads("house abcdefghi 1 2;", 1, 6);
        reads("house zaz 1 2;house z 1 2;house zz 1 2;", 0, -1);
        reads("house a99 9;", 0, -1);
        reads("house a 0012 2;", 0, -1);
        reads("house a 00012 2;", 1, 8);
        reads("house A 1 2;", 1, 6);
        reads("house a 1 2.;", 1, 11);
        reads("house a 1 2;.", 1, 12);
        reads("house a 1 2;\f", 1, 12);
        reads("house a 1 2;\u0000", 1, 12);
        reads("house a 1 2;\u00e9", 1, 12);
        reads("hums=1_2;", 1, 6);
        reads("hums=>1;", 1, 5);
        for (String word : new String[] {"house", "sends", "keeps", "turns", "hums", "dies", "grief", "seed", "if", "then", "else",
            "door", "hour", "day", "part", "wants", "age", "parts", "many", "had"}) {
            reads("house " + word + " 1 2;", 1, 6);
        }
        for (String name : new String[] {"houses", "send", "keep", "turn", "hum", "die", "ifs", "text", "want", "many" + "y", "hourday"}) {
            reads("house " + name + " 1 2;", 0, -1);
        }
    }

    private static void syntax() {
        reads("house a 1 2", 1, 11);
        reads("house a 1 2  ", 1, 13);
        reads("house", 1, 5);
        reads("house 1 2;", 1, 6);
        reads("house a 1;", 1, 9);
        reads("house a 1 2 3;", 1, 12);
        reads("sends 1;", 1, 7);
        reads("sends a 1;", 1, 6);
        reads("grief;", 1, 5);
        reads("grief 1 2;", 1, 8);
        reads("seed -1;", 1, 5);
        reads(";", 1, 0);
        reads("a", 1, 0);
        reads("if", 1, 0);
        reads("12345", 1, 0);
        reads("door = 1;", 1, 0);
        reads("keeps 1;", 1, 6);
        reads("keeps =;", 1, 7);
        reads("keeps = a;", 1, 8);
        reads("keeps = -1;", 1, 8);
        reads("keeps = 1 2;", 1, 10);
        reads("keeps = 1 +;", 1, 11);
        reads("keeps = 1 * / 2;", 1, 12);
        reads("keeps = (1;", 1, 10);
        reads("keeps = 1);", 1, 9);
        reads("keeps = ();", 1, 9);
        reads("keeps = if 1 then 2 else 3;", 1, 13);
        reads("keeps = if 1 < 2 < 3 then 2 else 3;", 1, 17);
        reads("keeps = if 1 < 2 then 3;", 1, 23);
        reads("keeps = if 1 < 2 then if 1 < 2 then 3 else 4 else 5;", 1, 22);
        reads("keeps = 1 < 2;", 1, 10);
        reads("keeps = (if 1 < 2 then 3 else 4);", 1, 9);
        reads("keeps = if 1 < 2 then 3 else if had < wants then age else (door + hour) * day / parts - many + part;", 0, -1);
        reads("keeps=1;turns=2;hums=3;dies=4;keeps=5;grief 1;grief 2;seed 1;seed 2;", 0, -1);
    }

    private static void room() {
        reads(houses(10), 0, -1);
        reads(houses(11), 2, 120);
        reads(houses(10) + " house", 2, 121);
        reads(houses(10) + " house house", 2, 121);
        reads(houses(10) + " x house", 1, 121);
        reads(houses(10) + "seed 1 house", 1, 127);
        reads(times(8, "sends 1 2;"), 0, -1);
        reads(times(8, "sends 1 2;") + "sends 3 4;", 2, 80);
        reads(times(40, "seed 1;"), 0, -1);
        reads("hums=" + times(4, "if 1<2 then 3 else ") + "4;", 0, -1);
        reads("hums=" + times(5, "if 1<2 then 3 else ") + "4;", 2, 81);
        reads(times(3, "hums=" + times(4, "if 1<2 then 3 else ") + "4;"), 0, -1);
        reads("hums=" + times(6, "(") + "1" + times(6, ")") + ";", 0, -1);
        reads("hums=" + times(7, "(") + "1" + times(7, ")") + ";", 2, 11);
        reads("hums=" + times(6, "(") + "1" + times(6, ")") + "+" + times(6, "(") + "1" + times(6, ")") + ";", 0, -1);
        reads("hums=if 1<2 then " + times(6, "(") + "1" + times(6, ")") + " else 2;", 0, -1);
        reads("hums=if 1<2 then " + times(7, "(") + "1" + times(7, ")") + " else 2;", 2, 23);
        reads("hums=if 1<2 then 1 else " + times(7, "(") + "1" + times(7, ")") + ";", 2, 30);
        reads("hums=if " + times(6, "(") + "1" + times(6, ")") + "<" + times(7, "(") + "1", 2, 28);
        // 133 tells of three TOKENS are 399
        reads(times(133, "seed 1;"), 0, -1);
        reads(times(133, "seed 1;") + "seed", 1, 935);
        reads(times(133, "seed 1;") + "seed 1", 2, 936);
        reads(times(133, "seed 1;") + "seed ;", 1, 936);
        reads(times(133, "seed 1;") + "seed !", 1, 936);
        reads(times(133, "seed 1;") + "seed 12345", 1, 936);
        // a LAW of just 400: two ahead of it, 397 within it, one behind it
        reads("hums=" + times(198, "1+") + "1;", 0, -1);
        reads("hums=" + times(198, "1+") + "1;;", 1, 403);
        reads("hums=" + times(198, "1+") + "1;seed", 2, 403);
        reads("hums=" + times(198, "1+") + "(1);", 2, 403);
        reads("hums=" + times(198, "1+") + "1+1;", 2, 403);
        // ROOM is first by its place
        reads("hums=" + times(7, "(") + "!", 2, 11);
        reads("hums=" + times(6, "(") + "! (", 1, 11);
    }

    private static void twiceAndWrong() {
        reads("house a 256 2;", 5, 8);
        reads("house a 255 99;", 0, -1);
        reads("house a 0 0;", 0, -1);
        reads("house a 1 100;", 5, 10);
        reads("house a 300 100;", 5, 8);
        reads("sends 23 255;", 0, -1);
        reads("sends 0 0;", 0, -1);
        reads("sends 24 0;", 5, 6);
        reads("sends 9999 0;", 5, 6);
        reads("sends 0 256;", 5, 8);
        reads("grief 0;", 5, 6);
        reads("grief 1;", 0, -1);
        reads("grief 99;", 0, -1);
        reads("grief 100;", 5, 6);
        reads("seed 9999;", 0, -1);
        reads("seed 0;", 0, -1);
        reads("hums=9999;", 0, -1);
        reads("house a 1 2;house a 3 4;", 3, 18);
        reads("house a 1 2;house aa 3 4;house b 3 4;", 0, -1);
        reads("house abcdefgh 1 2;house abcdefgi 3 4;", 0, -1);
        reads("house abcdefgh 1 2;house abcdefgh 3 4;", 3, 25);
        reads("house a 1 2;house b 1 2;house c 1 2;house b 3 4;", 3, 42);
        reads("house a 1 2;house a 300 4;", 3, 18);
        reads("house a 300 2;house a 3 4;", 5, 8);
        reads("house a 300 2;house a 3 4;!", 1, 26);
        reads("house a 300 2;" + times(9, "sends 1 2;"), 2, 94);
        reads("house a 1 2;house a 3 4", 1, 23);
    }

    private static void faultChangesNothing() {
        HeardNext x = Check.terrace("house a 3 20;sends 0 1;");
        x.hours(1);
        x.hold(1);
        x.tell(0, 4);
        CHECK.due("bad read", 5, Check.read(x, "house b 300 1;"));
        CHECK.due("place", 8, x.place());
        CHECK.due("tape", 0, x.count(9));
        CHECK.due("houses", 1, x.count(0));
        CHECK.due("wanted", 3, x.house(0, 0));
        CHECK.due("hour", 1, x.count(2));
        CHECK.due("heard", 1, x.house(0, 2));
        CHECK.due("told", 1, x.count(11));
        CHECK.due("held", 1, x.count(12));
        CHECK.due("undo", 1, x.count(10));
        CHECK.due("good read", 0, Check.read(x, "house b 5 6;house c 7 8;"));
        CHECK.due("place", -1, x.place());
        CHECK.due("houses", 2, x.count(0));
        CHECK.due("sends", 0, x.count(1));
        CHECK.due("wanted", 5, x.house(0, 0));
        for (int what : new int[] {2, 3, 4, 6, 7, 8, 10, 11, 12, 13, 14, 16, 17}) CHECK.due("count(" + what + ")", 0, x.count(what));
        CHECK.due("on", 3, x.count(5));
        CHECK.no("restore", x.restore(1));
        CHECK.no("undo", x.undo());
    }

    /** All that a text does not tell is as the document says, whatever the one ahead told. */
    private static void notTold() {
        HeardNext x = Check.terrace("house a 3 20;house b 1 1;keeps=0;turns=2;hums=9;dies=100;grief 3;seed 5;sends 0 9;");
        x.turn(1, false);
        x.change(0, 1);
        x.hours(2);
        CHECK.due("read", 0, Check.read(x, "house a 3 20;house b 1 1;"));
        CHECK.due("keeps 1, turns 0, hums 0", 77, x.passed(1, 77));
        CHECK.due("turns", 0, x.house(1, 7));
        CHECK.due("hums", 0, x.house(1, 8));
        CHECK.due("dies", 0, x.house(1, 9));
        CHECK.due("sent", 0, x.count(4));
        CHECK.due("on", 3, x.count(5));
        CHECK.due("who", 0, x.house(0, 6));
        CHECK.due("read", 0, Check.read(x, "house a 3 20;dies=100;"));
        x.hours(1);
        CHECK.due("grief 6", 6, x.house(0, 5));
        CHECK.due("read", 0, Check.read(x, "house a 3 20;dies=100;grief 9;grief 4;keeps=0;keeps=1;sends 0 1;sends 0 6;sends 1 8;"));
        CHECK.due("sends", 3, x.count(1));
        CHECK.due("the last of the hour", 6, x.count(4));
        CHECK.due("the last KEEPS", 5, x.passed(0, 5));
        x.hours(1);
        CHECK.due("the last GRIEF", 4, x.house(0, 5));
        CHECK.due("sent", 8, x.count(4));
    }

    public static void main(String[] args) {
        newObject();
        feedAndBack();
        tokens();
        syntax();
        room();
        twiceAndWrong();
        faultChangesNothing();
        notTold();
        CHECK.end();
    }
}
