import java.util.List;

/** Part I of the Terms and promises 1 to 5, sentence by sentence, at the edges that each names. */
public final class TextEdgeTest {
    private static final Check CHECK = new Check();
    private static final int BLANKS = 0x20202020;
    /** A text in which all of the grammar is, by its TOKENS; those that end a TELL are the signs ; . */
    private static final String[] WHOLE = ("house a 3 20 ; sends 2 7 ; keeps = if door < 2 then ( part + 1 ) else if hour - 1 < day * 3 / 2 then wants else 1 ; "
        + "turns = age ; hums = parts + many - had ; dies = 0 ; grief 4 ; seed 77 ;").split(" ");

    private static void reads(String text, int fault, int place) {
        CHECK.reads(text, fault, place);
    }

    private static int feedBlanks(HeardNext x) {
        return x.feed(BLANKS, BLANKS, BLANKS, BLANKS, BLANKS);
    }

    /** An object whose tape has so many blanks, a multiple of twenty. */
    private static HeardNext blank(int bytes) {
        HeardNext x = new HeardNext();
        for (int i = 0; i < bytes; i += 20) feedBlanks(x);
        return x;
    }

    private static void newObject() {
        CHECK.says("No HOUSES");
        HeardNext x = new HeardNext();
        CHECK.due("count(0)", 0, x.count(0));
        CHECK.due("house(0, 0)", -1, x.house(0, 0));
        CHECK.due("lives(0)", -1, x.lives(0));
        for (int what = 1; what <= 17; what++) CHECK.due("count(" + what + ")", 0, x.count(what));
    }

    private static void bytes() {
        CHECK.says("A TEXT has 2,000 bytes at most");
        String told = "house a 1 2;";
        reads(" ".repeat(1988) + told, 0, -1);
        reads(told + " ".repeat(1988), 0, -1);
        reads("house a 1 2" + " ".repeat(1989), 1, 2000);
        reads(" ".repeat(1999) + "!", 1, 1999);
        reads(" ".repeat(2000), 0, -1);
        reads("a".repeat(2000), 1, 0);
        reads("7".repeat(2000), 1, 0);
        reads("hums=" + "7".repeat(1995), 1, 5);
    }

    private static void feed() {
        CHECK.says("Twenty bytes, the highest of a first, come behind the tape: how many it has");
        HeardNext x = new HeardNext();
        // "seed 7;house zz 9 8;" and "house y 12 3;keeps=0"
        CHECK.due("feed", 20, x.feed(0x73656564, 0x20373b68, 0x6f757365, 0x207a7a20, 0x3920383b));
        CHECK.due("feed", 40, x.feed(0x686f7573, 0x65207920, 0x31322033, 0x3b6b6565, 0x70733d30));
        CHECK.due("no end of the last TELL", 1, x.read());
        CHECK.due("its place", 40, x.place());
        x.feed(0x73656564, 0x20373b68, 0x6f757365, 0x207a7a20, 0x3920383b);
        x.feed(0x686f7573, 0x65207920, 0x31322033, 0x3b6b6565, 0x70733d30);
        x.feed(0x3b202020, BLANKS, BLANKS, BLANKS, BLANKS);
        CHECK.due("read", 0, x.read());
        CHECK.due("what HOUSE 0 wants", 9, x.house(0, 0));
        CHECK.due("what HOUSE 1 wants", 12, x.house(1, 0));
        // each of the twenty bytes has its place: one that is no TOKEN at each of them
        for (int at = 0; at < 20; at++) {
            int[] w = {BLANKS, BLANKS, BLANKS, BLANKS, BLANKS};
            w[at / 4] ^= (' ' ^ 0x80) << 24 - at % 4 * 8;
            x.feed(w[0], w[1], w[2], w[3], w[4]);
            CHECK.due("byte 128 at " + at, 1, x.read());
            CHECK.due("its place", at, x.place());
        }
        CHECK.says("NONE, and nothing comes, if it would have more than 2,000");
        HeardNext y = blank(1980);
        CHECK.due("just 2,000", 2000, feedBlanks(y));
        CHECK.due("beyond", -1, y.feed(-1, -1, -1, -1, -1));
        CHECK.due("nothing came", 2000, y.count(9));
        for (int over = 1; over < 20; over++) {
            y.back(1);
            CHECK.due(over + " are free", -1, y.feed(-1, -1, -1, -1, -1));
            CHECK.due("nothing came", 2000 - over, y.count(9));
        }
        y.back(1);
        CHECK.due("twenty are free", 2000, feedBlanks(y));
        CHECK.due("what was refused is not on the tape", 0, y.read());
        CHECK.due("a read tape takes again", 20, feedBlanks(y));
    }

    private static void back() {
        CHECK.says("The last n bytes of the tape go: how many it has");
        HeardNext x = new HeardNext();
        Check.feed(x, "seed 1;!");
        CHECK.due("back(0)", 8, x.back(0));
        CHECK.due("back(1)", 7, x.back(1));
        CHECK.due("read", 0, x.read());
        Check.feed(x, "house a 9 9;!");
        CHECK.due("back(12)", 1, x.back(12));
        CHECK.due("the first byte stays", 1, x.read());
        Check.feed(x, "!");
        CHECK.due("all", 0, x.back(1));
        CHECK.due("the empty text", 0, x.read());
        CHECK.due("back(2000)", 0, blank(2000).back(2000));
        CHECK.says("NONE, and nothing goes, if it has not so many, or n is below 0");
        HeardNext y = blank(40);
        for (int n : new int[] {41, 42, 2000, 2001, Integer.MAX_VALUE, -1, -2, -40, Integer.MIN_VALUE}) {
            CHECK.due("back(" + n + ")", -1, y.back(n));
            CHECK.due("tape", 40, y.count(9));
        }
        CHECK.due("back(40)", 0, y.back(40));
        CHECK.due("back(1) of nothing", -1, y.back(1));
        CHECK.due("back(0) of nothing", 0, y.back(0));
    }

    private static void read() {
        CHECK.says("The tape, which is empty then, is read: 0, or the number of its FAULT");
        HeardNext x = new HeardNext();
        CHECK.due("nothing on the tape", 0, x.read());
        String[] texts = {"house a 1 2;", "!", Check.houses(11, "1 2"), "house a 1 2;house a 1 2;", "grief 0;"};
        int[] faults = {0, 1, 2, 3, 5};
        for (int i = 0; i < texts.length; i++) {
            CHECK.due(texts[i], faults[i], Check.read(x, texts[i]));
            CHECK.due("tape", 0, x.count(9));
            CHECK.due("a tape starts anew", 20, feedBlanks(x));
            x.back(20);
        }
        CHECK.says("The byte of the latest read()'s FAULT; NONE without");
        HeardNext y = new HeardNext();
        CHECK.due("no read() yet", -1, y.place());
        Check.read(y, "  !");
        CHECK.due("place", 2, y.place());
        Check.feed(y, "seed 1;");
        y.back(1);
        CHECK.due("feed and back are no read()", 2, y.place());
        y.read();
        CHECK.due("the text's end", 6, y.place());
        Check.read(y, "seed 1;");
        CHECK.due("none", -1, y.place());
        Check.read(y, "!");
        CHECK.due("at 0", 0, y.place());
        y.read();
        CHECK.due("behind the empty text", -1, y.place());
    }

    private static boolean isBlank(int c) {
        return c == 9 || c == 10 || c == 13 || c == 32;
    }

    private static boolean isLetter(int c) {
        return c >= 97 && c <= 122;
    }

    private static boolean isDigit(int c) {
        return c >= 48 && c <= 57;
    }

    private static void everyByte() {
        for (int c = 0; c < 256; c++) {
            String told = "" + (char) c;
            CHECK.says("with blanks (9, 10, 13, 32) between or not; byte " + c);
            reads("seed 1;" + told, isBlank(c) ? 0 : 1, isBlank(c) ? -1 : 7);
            reads("seed" + told + "1;", isBlank(c) || isDigit(c) ? 0 : 1, isBlank(c) || isDigit(c) ? -1 : isLetter(c) ? 0 : 4);
            CHECK.says("NAMES (letters a .. z); byte " + c);
            reads("house " + told + " 1 2;", isLetter(c) ? 0 : 1, isLetter(c) ? -1 : isBlank(c) ? 8 : 6);
            CHECK.says("SIGNS ; = + - * / < ( ) . all else, is no TOKEN; byte " + c);
            boolean fits = isDigit(c) || "+-*/".indexOf(c) >= 0;
            reads("hums=1" + told + "1;", fits ? 0 : 1, fits ? -1 : isBlank(c) || c == ';' ? 7 : 6);
        }
    }

    private static void tokens() {
        CHECK.says("TOKENS, the longest that can be, with blanks between or not");
        CHECK.due("no blanks but between INTS", 3, CHECK.reads("house a1 2;hums=if 1<2then 3else 4;", 0, -1).house(0, 8));
        CHECK.due("blanks of all sorts", 3, CHECK.reads("\r\n house\t\ta\n1\r2 ; hums = if 1 < 2 then 3 else 4 ;\n\r\t ", 0, -1).house(0, 8));
        reads("seed1;grief2;sends3 4;", 0, -1);
        reads("seed 12grief 3;", 1, 7);
        reads("hums=ifdoor<1 then 1 else 2;", 1, 5);
        reads("hums=if door<1thenx 1 else 2;", 1, 14);
        reads("hums=doorx;", 1, 5);
        reads("hums=part s;", 1, 10);
        reads("hums=parts;", 0, -1);
        reads("hu ms=1;", 1, 0);
        reads("sends 122;", 1, 9);
        reads("sends 1 22;", 0, -1);
        reads("hums=1 2;", 1, 7);
        reads("hums=1++2;", 1, 7);
        reads("hums==1;", 1, 5);
        CHECK.says("NAMES (letters a .. z, 8 at most, none of the words in quotes)");
        for (int n = 1; n <= 30; n++) reads("house " + "z".repeat(n) + " 1 2;", n <= 8 ? 0 : 1, n <= 8 ? -1 : 6);
        for (String word : "house sends keeps turns hums dies grief seed if then else door hour day part wants age parts many had".split(" ")) {
            reads("house " + word + " 1 2;", 1, 6);
            reads("house " + word + "q 1 2;", 0, -1);
            reads("house q" + word + " 1 2;", 0, -1);
            if (!word.equals("parts")) reads("house " + word.substring(0, word.length() - 1) + " 1 2;", 0, -1);
        }
        CHECK.says("INTS (1 to 4 digits)");
        for (int n = 1; n <= 30; n++) reads("hums=" + "0".repeat(n) + ";", n <= 4 ? 0 : 1, n <= 4 ? -1 : 5);
        reads("house a 0255 0099;sends 0023 0255;grief 0099;seed 0000;", 0, -1);
        CHECK.says("A longer one, all else, is no TOKEN");
        reads("houseabcd", 1, 0);
        reads("seed 10000;", 1, 5);
        reads("seed 1;abcdefghi", 1, 7);
        reads("seed 1;00001", 1, 7);
    }

    private static String joined(int n, String more) {
        StringBuilder all = new StringBuilder();
        for (int i = 0; i < n; i++) all.append(WHOLE[i]).append(' ');
        return all.append(more).toString();
    }

    private static void syntax() {
        CHECK.says("text: {TELL}");
        reads("", 0, -1);
        reads(joined(WHOLE.length, ""), 0, -1);
        for (int n = 1; n < WHOLE.length; n++) {
            boolean whole = WHOLE[n - 1].equals(";");
            String text = joined(n, "");
            CHECK.says("the first by its place (the text's end: its length)");
            reads(text, whole ? 0 : 1, whole ? -1 : text.length());
            CHECK.says("SYNTAX: a TOKEN, or what is none, with which no text goes on");
            reads(joined(n, "!" + joined(3, "")), 1, text.length());
            reads(joined(n, "abcdefghi"), 1, text.length());
            reads(joined(n, "="), 1, WHOLE[n].equals("=") ? text.length() + 1 : text.length());
            // a TELL's word fits only where a TELL may begin
            reads(joined(n, "seed 1;"), whole ? 0 : 1, whole ? -1 : text.length());
            // the first FAULT counts, whatever is behind it
            reads(joined(n, "seed 1;!"), 1, whole ? text.length() + 7 : text.length());
            reads(joined(n, "grief 0;"), whole ? 5 : 1, whole ? text.length() + 6 : text.length());
            reads(joined(n, "hums=((((((("), whole ? 2 : 1, whole ? text.length() + 11 : text.length());
        }
    }

    private static void rooms() {
        CHECK.says("HOUSES, 10 at most; one more of a sort than told (at its first TOKEN)");
        reads(Check.houses(10, "1 2"), 0, -1);
        reads(Check.houses(11, "1 2"), 2, 120);
        reads(Check.houses(10, "1 2") + "\n house", 2, 122);
        reads(Check.houses(10, "1 2") + "seed 4;house !", 2, 127);
        CHECK.says("SENDS, 8 at most; one more of a sort than told (at its first TOKEN)");
        reads("sends 1 2;".repeat(8), 0, -1);
        reads("sends 1 2;".repeat(9), 2, 80);
        reads("sends 1 2;".repeat(8) + "seed 4; sends", 2, 88);
        reads("sends 1 2;".repeat(8) + Check.houses(10, "1 2"), 0, -1);
        CHECK.says("a 5th if of a LAW (at it)");
        for (String law : new String[] {"keeps", "turns", "hums", "dies"}) {
            String head = law + "=" + "if 1<2 then 3 else ".repeat(4);
            reads(head + "4;", 0, -1);
            reads(head + "4;" + head + "4;", 0, -1);
            reads(head + "if 1<2 then 3 else 4;", 2, head.length());
            reads(head + " if", 2, head.length() + 1);
        }
        CHECK.says("a 7th ( within one another (at it)");
        String deep = "((((((1))))))";
        reads("hums=" + deep + ";", 0, -1);
        reads("hums=(" + deep + ");", 2, 11);
        reads("hums=" + deep + "*" + deep + "-" + deep + ";", 0, -1);
        reads("hums=(((((1)))+(((1+(1))))));", 0, -1);
        reads("hums=(((((1)))+((((1+(1)))))));", 2, 21);
        reads("hums=if " + deep + "<" + deep + " then " + deep + " else " + deep + ";", 0, -1);
        for (String open : new String[] {"hums=if ", "hums=if 1<", "hums=if 1<2 then ", "hums=if 1<2 then 3 else "}) {
            reads(open + "(" + deep + ")", 2, open.length() + 6);
        }
        reads("hums=(((((((", 2, 11);
    }

    /** So many TOKENS, without a FAULT: TELLS of three, and of four ahead of them as need be. */
    private static String soMany(int tokens) {
        int rest = tokens % 3;
        return (rest == 1 ? "hums=7;" : rest == 2 ? "sends 1 2;hums=7;" : "")
            + "seed 1;".repeat((tokens - (rest == 1 ? 4 : rest == 2 ? 8 : 0)) / 3);
    }

    private static void tokenRoom() {
        CHECK.says("ROOM: a 401st TOKEN");
        for (int n = 390; n <= 400; n++) {
            reads(soMany(n), 0, -1);
            reads(soMany(n) + "  ", 0, -1);
        }
        for (int n = 401; n <= 410; n++) {
            String fits = soMany(n);
            reads(fits, 2, placeOf(fits, 401));
            reads(fits + "!", 2, placeOf(fits, 401));
        }
        String full = soMany(400);
        reads(full + " seed", 2, full.length() + 1);
        reads(full + "house", 2, full.length());
        CHECK.says("of one place the least");
        reads(full + " ;", 1, full.length() + 1);
        reads(full + "!", 1, full.length());
        reads(full + "abcdefghi", 1, full.length());
        reads(full + "if", 1, full.length());
        String ten = Check.houses(10, "1 2");
        String tight = ten + "hums=" + "1+".repeat(173) + "1;";
        reads(tight, 0, -1);
        reads(tight + "house", 2, tight.length());
        reads(tight + "12345", 1, tight.length());
        String open = "hums=" + "1+".repeat(196) + "((((((";
        reads(open + "(", 2, open.length());
        CHECK.says("the first by its place");
        reads("hums 1;!", 1, 5);
        reads("hums 1;grief 0;((", 1, 5);
        reads("sends a 1;!", 1, 6);
        reads(soMany(399) + "! seed", 1, soMany(399).length());
        reads(soMany(398) + "seed 1;", 2, soMany(398).length() + 6);
        reads(soMany(398) + "seed 1 1", 1, soMany(398).length() + 7);
        reads(soMany(398) + "seed ;", 1, soMany(398).length() + 5);
        reads(soMany(398) + "seed", 1, soMany(398).length() + 4);
        reads(soMany(398) + "seed 1", 1, soMany(398).length() + 6);
        reads(Check.houses(11, "1 2") + "!", 2, 120);
        reads("!" + Check.houses(11, "1 2"), 1, 0);
        reads("sends 1 2;".repeat(9) + Check.houses(11, "1 2"), 2, 80);
    }

    /** Where the n-th TOKEN of a text begins. */
    private static int placeOf(String text, int n) {
        java.util.regex.Matcher token = java.util.regex.Pattern.compile("[a-z]+|[0-9]+|[^a-z0-9 ]").matcher(text);
        for (int i = 0; i < n; i++) token.find();
        return token.start();
    }

    /** NAMES of few letters, so that some are told twice; those alike in all but their places are not. */
    private static void manyNames() {
        CHECK.says("TWICE: a NAME told already");
        reads("house ab 1 2;house r 1 2;house ba 1 2;house b 1 2;house aab 1 2;house ar 1 2;", 0, -1);
        java.util.Random random = new java.util.Random(5);
        for (int text = 0; text < 400; text++) {
            StringBuilder all = new StringBuilder();
            java.util.Set<String> names = new java.util.HashSet<>();
            int place = -1;
            String letters = text % 2 == 0 ? "abcdefghijklmnopqrstuvwxyz" : "abopqz";
            for (int h = 0; h < 10; h++) {
                StringBuilder name = new StringBuilder();
                int length = text % 4 < 2 ? 1 + random.nextInt(2) : 7 + random.nextInt(2);
                for (int i = 0; i < length; i++) name.append(i + 2 < length ? 'x' : letters.charAt(random.nextInt(letters.length())));
                if (!names.add(name.toString()) && place < 0) place = all.length() + 6;
                all.append("house ").append(name).append(" 1 2;");
            }
            reads(all.toString(), place < 0 ? 0 : 3, place);
        }
    }

    private static void twice() {
        CHECK.says("TWICE: a NAME told already");
        reads("house a 1 2;house a 1 2;", 3, 18);
        reads("house a 1 2;house b 1 2;house a 1 2;house b 1 2;", 3, 30);
        String nine = Check.houses(9, "1 2");
        for (char name = 'a'; name <= 'i'; name++) reads(nine + "house " + name + " 1 2;", 3, nine.length() + 6);
        reads(nine + "house j 1 2;", 0, -1);
        reads("house abcdefgh 1 2;house bcdefgh 1 2;house abcdefg 1 2;house hgfedcba 1 2;", 0, -1);
        reads("house zzzzzzzz 1 2;house zzzzzzz 1 2;house zzzzzzzz 1 2;", 3, 43);
        CHECK.says("If there is none, likewise: the first by its place");
        reads("house a 1 2;house a 256 2;", 3, 18);
        reads("house a 256 2;house a 1 2;", 5, 8);
        reads("house a 1 100;house a 1 2;", 5, 10);
        reads("house a 1 2;house a 1 2;grief 0;", 3, 18);
        reads("grief 0;house a 1 2;house a 1 2;", 5, 6);
        CHECK.says("If there is none");
        reads("house a 256 2;house a 1 2;;", 1, 26);
        reads("house a 256 2;house a 1 2", 1, 25);
        reads("grief 0;hums=(((((((", 2, 19);
        reads("house a 1 2;house a 1 2;" + "sends 1 2;".repeat(9), 2, 104);
        String ten = Check.houses(10, "1 2");
        reads(ten + "house a 1 2;", 2, 120);
        reads(ten + "house k 999 2;", 2, 120);
    }

    private static void wrong() {
        CHECK.says("the PARTS that are WANTED there 0 .. 255");
        reads("house a 0 0;", 0, -1);
        reads("house a 255 0;", 0, -1);
        reads("house a 256 0;", 5, 8);
        reads("house a 9999 0;", 5, 8);
        CHECK.says("AGE of who lives there 0 .. 99");
        reads("house a 0 99;", 0, -1);
        reads("house a 0 100;", 5, 10);
        reads("house a 0 0100;", 5, 10);
        CHECK.says("an hour of the day 0 .. 23");
        reads("sends 0 0;sends 23 0;", 0, -1);
        reads("sends 24 0;", 5, 6);
        CHECK.says("a PROGRAMME: PARTS 0 .. 255");
        reads("sends 0 255;", 0, -1);
        reads("sends 0 256;", 5, 8);
        reads("sends 24 256;", 5, 6);
        CHECK.says("GRIEF 1 .. 99");
        reads("grief 0;", 5, 6);
        reads("grief 0000;", 5, 6);
        reads("grief 1;", 0, -1);
        reads("grief 99;", 0, -1);
        reads("grief 100;", 5, 6);
        reads("grief 0;grief 5;", 5, 6);
        CHECK.says("SEED 0 .. 9999");
        reads("seed 0;", 0, -1);
        reads("seed 9999;", 0, -1);
        CHECK.says("INTS of a LAW are told no edge but their digits");
        reads("keeps=9999;turns=9999;hums=9999;dies=9999;", 0, -1);
    }

    private static void asTold() {
        CHECK.says("HOUSES, in a row, numbered from 0 on as they stand");
        StringBuilder row = new StringBuilder();
        for (int i = 0; i < 10; i++) row.append("house ").append((char) ('z' - i)).append(' ').append(i * 28 + 3).append(' ').append(i * 11).append(';');
        HeardNext x = Check.terrace("seed 3;" + row);
        CHECK.due("HOUSES", 10, x.count(0));
        for (int i = 0; i < 10; i++) {
            CHECK.due("WANTED at " + i, i * 28 + 3, x.house(i, 0));
            CHECK.due("AGE at " + i, i * 11, x.house(i, 1));
            CHECK.due("NAME at " + i, i, x.house(i, 6));
            CHECK.due("lives(" + i + ")", i, x.lives(i));
        }
        CHECK.says("of one hour the last one counts");
        HeardNext y = Check.terrace("house a 0 0;sends 0 1;sends 0 2;sends 23 4;sends 0 8;sends 23 16;sends 1 32;sends 1 0;sends 0 64;");
        CHECK.due("SENDS", 8, y.count(1));
        CHECK.due("of hour 0", 64, y.count(4));
        y.hours(1);
        CHECK.due("of hour 1", 0, y.count(4));
        y.hours(22);
        CHECK.due("of hour 23", 16, y.count(4));
        CHECK.says("LAWS: KEEPS (1), TURNS (0), HUMS (0), DIES (0), if not told");
        HeardNext z = Check.terrace("house a 0 0;");
        CHECK.due("passed", 165, z.passed(0, 165));
        for (int what = 7; what <= 9; what++) CHECK.due("house(0, " + what + ")", 0, z.house(0, what));
        CHECK.says("LAWS: the last one");
        HeardNext v = Check.terrace("keeps=0;turns=1;hums=2;dies=3;house a 0 0;dies=100;hums=64;turns=5;keeps=1;");
        CHECK.due("passed", 96, v.passed(0, 1));
        CHECK.due("TURNS", 5, v.house(0, 7));
        CHECK.due("HUMS", 64, v.house(0, 8));
        CHECK.due("DIES", 100, v.house(0, 9));
        CHECK.says("GRIEF (6); the last one");
        v.hours(1);
        CHECK.due("not told", 6, v.house(0, 5));
        HeardNext w = Check.terrace("grief 1;house a 0 0;dies=100;grief 99;");
        w.hours(1);
        CHECK.due("told twice", 99, w.house(0, 5));
        CHECK.says("SEED (0): the last one");
        // LOT 100 of hour 0, HOUSE 0: SEED 0: 95, SEED 7: 27
        String frail = "house a 0 0;dies=50;";
        CHECK.due("not told: 0", 0, Check.terrace(frail).mourn(1));
        CHECK.due("told twice: 7", 1, Check.terrace("seed 0;" + frail + "seed 7;").mourn(1));
        CHECK.due("told twice: 0", 0, Check.terrace("seed 7;" + frail + "seed 0;").mourn(1));
    }

    private static void longLaws() {
        CHECK.says("LAWS of as many TOKENS as there may be");
        String house = "house a 0 0;";
        // five TOKENS for the HOUSE, two ahead of the LAW, 391 in it, one behind it: 399
        HeardNext x = Check.terrace(house + "hums=" + "1+".repeat(195) + "1;");
        CHECK.due("196 ones", 196, x.house(0, 8));
        CHECK.due("195 of them, less 2", 193, Check.terrace("hums=" + "1+".repeat(192) + "1+1-2+1;" + house).house(0, 8));
        for (int again = 0; again < 10; again++) {
            CHECK.due("read", 0, Check.read(x, house + "hums=" + "1+".repeat(195 - again) + "1;"));
            CHECK.due("text " + again, 196 - again, x.house(0, 8));
        }
    }

    /** A text that tells nothing is as that of a new object, however many have told all ahead of it, with a FAULT or without. */
    private static void nothingIsLeft() {
        CHECK.says("it is in place of the one ahead");
        String all = "keeps=0;turns=3;hums=9;dies=100;grief 3;seed 7;sends 0 9;sends 5 8;";
        for (int ahead = 1; ahead <= 4; ahead++) {
            for (String end : new String[] {"", "!"}) {
                HeardNext x = new HeardNext();
                for (int i = 0; i < ahead; i++) {
                    Check.read(x, "house q 3 50;" + all + (i % 2 == 0 ? end : ""));
                    x.comes(0, 7);
                }
                CHECK.due("read", 0, Check.read(x, "house a 0 0;house b 5 0;"));
                CHECK.due("SENDS", 0, x.count(1));
                CHECK.due("SENT", 0, x.count(4));
                CHECK.due("COMES", 77, x.comes(1, 77));
                CHECK.due("PASSED", 77, x.passed(1, 77));
                for (int what = 7; what <= 9; what++) CHECK.due("house(1, " + what + ")", 0, x.house(1, what));
                x.hours(6);
                CHECK.due("SENT in hour 5", 0, x.house(0, 2));
                CHECK.due("read", 0, Check.read(x, all + "seed 0;"));
                CHECK.due("read", 0, Check.read(x, "house a 0 0;dies=50;"));
                CHECK.due("SEED 0: 95", 0, x.mourn(1));
                CHECK.due("read", 0, Check.read(x, "house a 0 0;dies=96;"));
                x.hours(1);
                CHECK.due("GRIEF 6", 6, x.house(0, 5));
            }
        }
        CHECK.says("it is in place of the one ahead: what COMES, too");
        HeardNext y = Check.terrace("house a 0 0;house b 0 0;keeps=0;");
        CHECK.due("all is lost", 0, y.comes(1, 255));
        Check.read(y, "house a 0 0;house b 0 0;!");
        CHECK.due("a FAULT: as ahead", 0, y.comes(1, 255));
        Check.read(y, "house a 0 0;house b 0 0;turns=1;");
        CHECK.due("nothing is lost", 254, y.comes(1, 127));
    }

    private static HeardNext lived() {
        HeardNext x = Check.terrace("house a 3 20;house b 5 33;house c 14 40;sends 0 7;dies=if door<2 then 0 else 100;hums=door;");
        x.hours(2);
        x.turn(0, false);
        x.hold(2);
        x.change(0, 1);
        x.send(9);
        x.tell(1, 5);
        return x;
    }

    private static void inPlace() {
        CHECK.says("A text with a FAULT changes nothing but the tape");
        String[] faulty = {"house z 1 1;!", Check.houses(11, "9 9"), "house z 1 1;house z 1 1;", "seed 5;keeps=0;grief 0;", "hums=(((((((1", "sends 3 4;sends 24 1;"};
        for (String text : faulty) {
            HeardNext x = lived();
            CHECK.yes(text, Check.read(x, text) > 0);
            List<Integer> due = Check.seenToTheEnd(lived());
            CHECK.yes(text + ": all is as it was", due.equals(Check.seenToTheEnd(x)));
        }
        CHECK.says("else it is in place of the one ahead: hour 0, nothing heard, all sets ON, nobody in GRIEF; nothing can be undone, nothing is TOLD, SLOTS hold nothing");
        for (String text : new String[] {"house q 1 2;house r 3 4;", "", Check.houses(10, "255 99"), "sends 0 5;"}) {
            HeardNext x = lived();
            CHECK.due(text, 0, Check.read(x, text));
            CHECK.yes(text + ": as of a new object", Check.seenToTheEnd(Check.terrace(text)).equals(Check.seenToTheEnd(x)));
        }
        HeardNext y = lived();
        Check.read(y, "house q 1 2;house r 3 4;");
        int[] due = {2, 0, 0, 0, 0, 3, 0, 0, 0, 0, 0, 0, 0, 0, 0, 3, 0, 0};
        for (int what = 0; what < due.length; what++) CHECK.due("count(" + what + ")", due[what], y.count(what));
        for (int slot = 0; slot < 3; slot++) CHECK.no("restore(" + slot + ")", y.restore(slot));
        CHECK.no("undo()", y.undo());
        CHECK.due("forget()", 0, y.forget());
    }

    public static void main(String[] args) {
        newObject();
        bytes();
        feed();
        back();
        read();
        everyByte();
        tokens();
        syntax();
        rooms();
        tokenRoom();
        twice();
        manyNames();
        wrong();
        asTold();
        longLaws();
        nothingIsLeft();
        inPlace();
        CHECK.end();
    }
}
