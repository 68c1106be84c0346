import java.util.Arrays;
import java.util.List;
import java.util.NoSuchElementException;

/**
 * One test for each sentence of the document that names a boundary case: too small, too large, empty, full, wrapped
 * round, refused. Each begins with the promises it is of and the document's words; all answers are worked out by hand.
 */
public final class BoundaryTest {
    private static final int NO_SUCH = -99;
    private static final int LOW = Integer.MIN_VALUE;
    private static final int HIGH = Integer.MAX_VALUE;
    private static final String TOKEN_SIGNS = "()<=+-*;";
    private static final String[] RESERVED = {"pen", "seats", "path", "guest", "mood", "in", "animal", "likes", "coins",
        "foe", "feeds", "tyre", "costs", "rain", "sees", "moods", "move", "hour", "plain", "poet", "boy", "single", "not",
        "and", "or"};
    private static final String[] FACTS = {"liked", "humour", "others", "watched", "fed"};
    private static final List<String> KINDS = List.of("plain", "poet", "boy", "single");

    // Oak: ann, bob (2 seats); elm: cid (1 seat); ash: dot (no seat). In an hour now the bear sees oak for 2 + 9,
    // the lynx oak for 6, the stork elm for 1.
    private static final String PARK = "pen oak seats 2;pen elm seats 1;pen ash seats 0;path oak elm 4;path elm ash 6;"
        + "guest ann plain mood 3 in oak;guest bob poet mood 5 in oak;guest cid single mood 1 in elm;guest dot boy mood 2 in ash;"
        + "animal bear likes poet coins 20;animal lynx likes single coins 9;animal stork likes boy coins 99;"
        + "foe ann cid;feeds 3;tyre 4 costs 6;rain 2;";

    private static int wrong = 0;
    private static int checks = 0;
    private static int sentences = 0;
    private static int checksAhead = 0;
    private static String promises = "";
    private static String words = "";
    private static final boolean[] named = new boolean[27];

    // ==== How it is told and checked

    private static void sentence(String ofPromises, String quoted) {
        endSentence();
        promises = ofPromises;
        words = quoted;
        sentences++;
        checksAhead = checks;
        for (String number : ofPromises.split(", ")) {
            named[Integer.parseInt(number)] = true;
        }
    }

    private static void endSentence() {
        if (sentences > 0 && checks == checksAhead) {
            wrong++;
            System.out.println("promise " + promises + " (" + words + "): nothing is checked");
        }
    }

    private static void due(String call, long got, long want) {
        checks++;
        if (got != want) {
            wrong++;
            System.out.println("promise " + promises + " (" + words + "): " + call + " answered " + got + ", due is " + want);
        }
    }

    private static void due(String call, boolean got, boolean want) {
        due(call, got ? 1 : 0, want ? 1 : 0);
    }

    private static long eight(String text, int from) {
        long value = 0;
        for (int i = from; i < from + 8; i++) {
            value = value << 8 | (i < text.length() ? text.charAt(i) : 0);
        }
        return value;
    }

    private static int feed(BearTickets x, String text) {
        int size = x.count(12);
        for (int i = 0; i < text.length(); i += 24) {
            size = x.feed(eight(text, i), eight(text, i + 8), eight(text, i + 16));
        }
        return size;
    }

    private static BearTickets zoo(String text) {
        BearTickets x = new BearTickets();
        feed(x, text);
        due("zoo of " + text, x.zoo(), 0);
        return x;
    }

    private static void days(BearTickets x, String text) {
        feed(x, text);
        due("days of " + text, x.days(), 0);
    }

    private static String without(String text) {
        int place = text.indexOf('@');
        return text.substring(0, place) + text.substring(place + 1);
    }

    // The token that is wrong begins at the "@", which is taken out.
    private static void zooFault(String text, int kind) {
        BearTickets x = new BearTickets();
        feed(x, without(text));
        due("zoo of " + text, x.zoo(), kind + 16 * text.indexOf('@'));
    }

    private static void daysFault(BearTickets x, String text, int kind) {
        feed(x, without(text));
        due("days of " + text, x.days(), kind + 16 * text.indexOf('@'));
    }

    private static String times(int many, String text) {
        return text.repeat(many);
    }

    private static int rests(BearTickets x, int animals, int cost, int what) {
        try {
            return x.rests(animals, cost, what);
        } catch (NoSuchElementException e) {
            return NO_SUCH;
        }
    }

    private static void hours(BearTickets x, int many) {
        for (int i = 0; i < many; i++) {
            x.hour();
        }
    }

    // All that one can see of an object without changing it, in 76 calls.
    private static int[] sight(BearTickets x) {
        int[] seen = new int[76];
        int at = 0;
        for (int what = 0; what <= 12; what++) {
            seen[at++] = x.count(what);
        }
        for (int i = 0; i < 6; i++) {
            seen[at++] = x.pen(i, 0);
            seen[at++] = x.pen(i, 1);
            seen[at++] = x.pen(i, 2);
            seen[at++] = x.guest(i, 0);
            seen[at++] = x.guest(i, 1);
            seen[at++] = x.guest(i, 2);
            seen[at++] = x.guest(i, 3);
        }
        for (int i = 0; i < 5; i++) {
            seen[at++] = x.animal(i, 1);
            seen[at++] = x.animal(i, 2);
        }
        for (int what = 0; what <= 3; what++) {
            seen[at++] = x.sets(what);
        }
        for (int what = 0; what <= 2; what++) {
            seen[at++] = x.judged(what);
        }
        seen[at++] = x.next();
        seen[at++] = x.show(0);
        seen[at++] = x.tyres();
        seen[at] = x.apart(-1);
        return seen;
    }

    private static void dueSame(String call, int[] got, int[] want) {
        due(call + ": all is as it was", Arrays.equals(got, want), true);
    }

    // ==== The tape

    private static void tape() {
        sentence("2", "The TAPE has at most 1,000 signs; what is beyond 1,000 is left out");
        BearTickets x = new BearTickets();
        due("984 signs", feed(x, times(984, " ")), 984);
        due("15 more", feed(x, times(15, " ")), 999);
        due("2 more: the second is beyond", feed(x, " #"), 1000);
        due("none beyond", x.feed(eight("########", 0), eight("########", 0), eight("########", 0)), 1000);
        due("what is beyond is not read", x.zoo(), 0);
        feed(x, times(984, " "));
        due("some of three longs are beyond", x.feed(eight("        ", 0), eight("       #", 0), eight("########", 0)), 1000);
        due("the 1,000th is read", x.zoo(), 1 + 16 * 999);
        due("1,000 signs are a text", feed(x, "pen a seats 4;" + times(986, "\n")), 1000);
        due("1,000 signs are a text", x.zoo(), 0);
        due("seats", x.pen(0, 0), 4);
        due("999 signs and the end", feed(x, times(998, " ") + "x"), 999);
        due("the end behind 1,000 signs", feed(x, "y"), 1000);
        due("a word of two signs at the end", x.zoo(), 1 + 16 * 998);

        sentence("2", "others than 10 and 32 .. 126 are left out");
        x = new BearTickets();
        int many = 0;
        for (int sign = 0; sign < 256; sign++) {
            many += sign == 10 || sign >= 32 && sign <= 126 ? 1 : 0;
            due("sign " + sign, x.feed((long) sign << 56, 0L, 0L), many);
        }
        due("96 in all", x.count(12), 96);
        due("none of 24", x.feed(-1L, LOW, Long.MIN_VALUE), 96);

        sentence("2", "Up to 24 signs: the bytes of a, b, c, of each the highest first");
        x = new BearTickets();
        due("none", x.feed(0L, 0L, 0L), 0);
        due("24", x.feed(eight("pen abcd", 0), eight("efgh sea", 0), eight("ts   7 ;", 0)), 24);
        due("in their order", x.zoo(), 0);
        due("seats", x.pen(0, 0), 7);
        due("the last byte of each", x.feed('p', 'e', 'n'), 3);
        due("what is left out parts nothing", x.feed(0x0000200000610020L, eight("seats", 0), '8'), 12);
        due("still no ;", x.zoo(), 1 + 16 * 12);

        sentence("2, 26", "how many there are; signs on the TAPE");
        x = new BearTickets();
        due("none", x.count(12), 0);
        due("one", x.feed(' ', 0L, 0L), 1);
        due("one", x.count(12), 1);

        sentence("3, 4", "what reads it takes it: it is empty then");
        x = new BearTickets();
        feed(x, "pen a seats 1;");
        x.zoo();
        due("a zoo", x.count(12), 0);
        feed(x, "pen a seats 1;?");
        x.zoo();
        due("a fault of a zoo", x.count(12), 0);
        feed(x, "hour;");
        x.days();
        due("days", x.count(12), 0);
        feed(x, "hour;?");
        x.days();
        due("a fault of days", x.count(12), 0);
        due("feeding begins anew", feed(x, "hour;"), 5);
        due("days", x.days(), 0);
        due("one line", x.count(9), 1);
        x = new BearTickets();
        feed(x, "rain 123456789;");
        due("a longer text", x.zoo(), 1 + 16 * 5);
        feed(x, "rain 1");
        due("no digit of it is left behind the end", x.zoo(), 1 + 16 * 6);
        feed(x, "hour;hours");
        due("a longer text", x.days(), 1 + 16 * 5);
        feed(x, "hour;hou");
        due("no letter of it is left behind the end", x.days(), 1 + 16 * 5);
        feed(x, "feeds 1;;");
        due("a longer text", x.zoo(), 1 + 16 * 8);
        feed(x, "feeds 1");
        due("no sign of it is left behind the end", x.zoo(), 1 + 16 * 7);
    }

    private static void tokens() {
        sentence("3, 4", "TOKENS, each as long as can be");
        zooFault("@pena seats 1;", 1);
        zooFault("pen aseats @1;", 1);
        zooFault("sees 1 @2;", 1);
        zooFault("sees @notliked;", 1);
        due("12 is one number", zoo("pen a seats 1;guest b boy mood 1 in a;animal c likes boy coins 1;sees 12;").worth(0, 0), 12);
        due("a word ends at a digit", zoo("pen a seats2;").pen(0, 0), 2);

        sentence("3, 4", "blanks (10, 32) between where one likes");
        due("many", zoo(" \n\npen\na  seats \n 3\n;\n ").pen(0, 0), 3);
        due("few", zoo("sees(1+2)*3;pen a seats 1;").count(0), 1);
        BearTickets x = zoo(PARK);
        days(x, "\nmove\nann\nash\n;\nhour\n;hour;\n");
        due("lines", x.count(9), 3);

        sentence("3, 4", "WORDS (letters a .. z, 8 at most)");
        due("8 letters", zoo("pen abcdefgh seats 1;").count(0), 1);
        zooFault("pen @abcdefghi seats 1;", 1);
        zooFault("@abcdefghi", 1);
        zooFault("pen @" + times(900, "a"), 1);
        due("two that differ in the eighth", zoo("pen abcdefgh seats 1;pen abcdefgi seats 1;pen abcdefg seats 1;").count(0), 3);
        due("a and z", zoo("pen a seats 1;pen z seats 1;pen aa seats 1;pen zz seats 1;pen zzzzzzzz seats 1;").count(0), 5);
        due("one letter and two", zoo("pen b seats 1;pen bb seats 1;pen ab seats 1;pen ba seats 1;pen y seats 1;pen yz seats 1;").count(0), 6);
        zooFault("pen a@` seats 1;", 1);
        zooFault("pen @` seats 1;", 1);
        zooFault("pen z@{ seats 1;", 1);
        zooFault("pen @{ seats 1;", 1);
        zooFault("pen @A seats 1;", 1);
        zooFault("pen @Z seats 1;", 1);
        zooFault("pen a@Z seats 1;", 1);

        sentence("3, 4", "NUMBERS (1 to 4 digits; a letter may stand right behind)");
        due("1 digit", zoo("pen a seats 1;").pen(0, 0), 1);
        due("4 digits", zoo("pen a seats 0009;").pen(0, 0), 9);
        due("4 digits", zoo("sees 9999;").count(0), 0);
        zooFault("pen a seats @00009;", 1);
        zooFault("sees @10000;", 1);
        zooFault("sees @" + times(900, "9") + ";", 1);
        // 2 ^ 32 + 1 must not become 1.
        zooFault("pen a seats @4294967297;", 1);
        zooFault("sees @/;", 1);
        zooFault("sees @:;", 1);
        zooFault("sees 1@/;", 1);
        zooFault("sees 1@:;", 1);
        due("0 to 9 are digits", zoo("pen a seats 0;pen b seats 9;").pen(1, 0), 9);
        due("a letter behind", zoo("pen a seats 1;guest b boy mood 4in a;tyre 2costs 3;sees 1and 1;").guest(0, 1), 4);
        zooFault("pen a seats 1@b;", 1);

        sentence("3, 4", "the signs ( ) < = + - * ;  All else is none");
        due("all signs", zoo("sees (1<2)=(3+4-5*6);").count(0), 0);
        x = new BearTickets();
        for (char sign = 33; sign <= 126; sign++) {
            boolean letter = sign >= 'a' && sign <= 'z';
            boolean digit = sign >= '0' && sign <= '9';
            if (!letter && !digit && TOKEN_SIGNS.indexOf(sign) < 0) {
                feed(x, "feeds 1" + sign + ";");
                due("sign " + sign, x.zoo(), 1 + 16 * 7);
                feed(x, "hour" + sign + ";");
                due("sign " + sign, x.days(), 1 + 16 * 4);
            }
        }

        sentence("3, 4", "(a longer WORD or NUMBER, too, at its first sign) is none");
        zooFault("pen a seats 1;\n  @penpenpen b seats 1;", 1);
        zooFault("feeds  @12345;", 1);
        x = zoo(PARK);
        daysFault(x, "hour;tyre  @annannann;", 1);
        daysFault(x, "hour;@hourhourh;", 1);
    }

    // ==== What a zoo and days may hold

    private static final String SIX_PENS = "pen a seats 0;pen b seats 1;pen c seats 2;pen d seats 3;pen e seats 4;pen f seats 9;";
    private static final String SIX_GUESTS = "guest g plain mood 0 in a;guest h poet mood 1 in b;guest i boy mood 2 in c;"
        + "guest j single mood 3 in d;guest k plain mood 4 in e;guest l poet mood 9 in f;";
    private static final String FIVE_ANIMALS = "animal m likes plain coins 0;animal n likes poet coins 1;animal o likes boy coins 2;"
        + "animal p likes single coins 3;animal q likes plain coins 999;";
    // All that a text can tell, so that what is left of it would be seen in the next one.
    private static final String CROWDED = SIX_PENS + SIX_GUESTS + FIVE_ANIMALS + pairs("path ", "abcdef", " 7;") + pairs("foe ", "ghijkl", ";")
        + "feeds 0;tyre 9 costs 0;rain 10;sees 50;moods 7;";

    private static String pairs(String line, String names, String end) {
        StringBuilder text = new StringBuilder();
        for (int i = 0; i < names.length(); i++) {
            for (int j = i + 1; j < names.length(); j++) {
                text.append(line).append(names.charAt(i)).append(' ').append(names.charAt(j)).append(end);
            }
        }
        return text.toString();
    }

    private static void pensAndPaths() {
        sentence("3", "ZOO: any number of (none, too)");
        due("nothing", zoo("").count(0), 0);
        due("blanks alone", zoo(" \n").count(0), 0);
        due("in any order", zoo("rain 1;animal a likes boy coins 1;feeds 2;pen b seats 3;").count(0), 1);

        sentence("3", "pen: 6 at most, numbered as told");
        BearTickets x = zoo(SIX_PENS);
        int[] seats = {0, 1, 2, 3, 4, 9};
        due("six", x.count(0), 6);
        for (int i = 0; i < 6; i++) {
            due("seats", x.pen(i, 0), seats[i]);
        }
        zooFault(SIX_PENS + "@pen g seats 1;", 5);
        zooFault(SIX_PENS + "feeds 1;@pen a seats 99", 5);
        zooFault(SIX_PENS + "@pen", 5);

        sentence("3", "seats 0 to 9");
        due("0", zoo("pen a seats 0;").pen(0, 0), 0);
        due("9", zoo("pen a seats 9;").pen(0, 0), 9);
        zooFault("pen a seats @10;", 4);
        zooFault("pen a seats @9999;", 4);
        zooFault("pen a seats @-1;", 1);

        sentence("3", "path: two PENS told");
        due("told", zoo("pen a seats 1;pen b seats 1;path b a 5;").walk(1, 0), 0);
        zooFault("path @a b 5;pen a seats 1;pen b seats 1;", 2);
        zooFault("pen a seats 1;path a @b 5;pen b seats 1;", 2);
        zooFault(SIX_PENS + SIX_GUESTS + "path @g a 5;", 2);
        zooFault(SIX_PENS + SIX_GUESTS + "path a @g 5;", 2);
        zooFault(SIX_PENS + "path a @;", 1);
        zooFault(SIX_PENS + "path a b@;", 1);

        sentence("3", "path: not the same");
        zooFault(SIX_PENS + "path a @a 5;", 3);
        zooFault(SIX_PENS + "path f @f 5;", 3);

        sentence("3", "path: each pair once");
        x = zoo(SIX_PENS + pairs("path ", "abcdef", " 30;"));
        due("all fifteen", x.count(3), 15);
        zooFault(SIX_PENS + "path a b 5;path a @b 5;", 3);
        zooFault(SIX_PENS + "path a b 5;path b @a 5;", 3);
        due("another pair", zoo(SIX_PENS + "path a b 5;path a c 5;path c b 5;").count(3), 3);

        sentence("3", "1 to 30 minutes");
        zooFault(SIX_PENS + "path a b @0;", 4);
        zooFault(SIX_PENS + "path a b @31;", 4);
        String there = "pen a seats 0;pen b seats 0;guest c boy mood 1 in b;path a b ";
        due("1", zoo(there + "1;").walk(0, 0), 1);
        due("30", zoo(there + "30;").walk(0, 0), 30);
    }

    private static void guestsAndAnimals() {
        sentence("3", "guest: 6 at most, numbered as told; KIND; mood 0 to 9; in a PEN told");
        BearTickets x = zoo(SIX_PENS + SIX_GUESTS);
        int[] kinds = {0, 1, 2, 3, 0, 1};
        int[] moods = {0, 1, 2, 3, 4, 9};
        due("six", x.count(1), 6);
        for (int i = 0; i < 6; i++) {
            due("kind", x.guest(i, 0), kinds[i]);
            due("mood", x.guest(i, 1), moods[i]);
            due("pen", x.guest(i, 2), i);
        }
        zooFault(SIX_PENS + SIX_GUESTS + "@guest x boy mood 1 in a;", 5);
        zooFault(SIX_PENS + SIX_GUESTS + "@guest", 5);
        zooFault("pen a seats 1;guest b boy mood @10 in a;", 4);
        zooFault("pen a seats 1;guest b @king mood 1 in a;", 1);
        zooFault("pen a seats 1;guest b @mood 1 in a;", 1);
        for (String word : RESERVED) {
            if (!KINDS.contains(word)) {
                zooFault("pen a seats 1;guest b @" + word + " mood 1 in a;", 1);
                zooFault("animal b likes @" + word + " coins 1;", 1);
            }
        }
        for (String word : FACTS) {
            zooFault("pen a seats 1;guest b @" + word + " mood 1 in a;", 1);
            zooFault("animal b likes @" + word + " coins 1;", 1);
        }
        zooFault("guest b boy mood 1 in @a;pen a seats 1;", 2);
        zooFault("pen a seats 1;guest b boy mood 1 in @b;", 2);
        zooFault("animal a likes boy coins 1;guest b boy mood 1 in @a;", 2);

        sentence("3", "animal: 5 at most, numbered as told; likes a KIND; coins 0 to 999");
        x = zoo(FIVE_ANIMALS);
        int[] likes = {0, 1, 2, 3, 0};
        int[] coins = {0, 1, 2, 3, 999};
        due("five", x.count(2), 5);
        for (int i = 0; i < 5; i++) {
            due("likes", x.animal(i, 0), likes[i]);
            due("coins", x.animal(i, 1), coins[i]);
        }
        zooFault(FIVE_ANIMALS + "@animal r likes boy coins 1;", 5);
        zooFault(FIVE_ANIMALS + "@animal", 5);
        zooFault("animal a likes boy coins @1000;", 4);
        zooFault("animal a likes @cat coins 1;", 1);

        sentence("3", "foe: two GUESTS told, not the same, each pair once");
        x = zoo(SIX_PENS + SIX_GUESTS + pairs("foe ", "ghijkl", ";"));
        due("all fifteen", x.count(4), 15);
        String six = SIX_PENS + SIX_GUESTS;
        zooFault(six + "foe @a g;", 2);
        zooFault(six + "foe g @a;", 2);
        zooFault(six + FIVE_ANIMALS + "foe g @m;", 2);
        zooFault("pen a seats 1;guest b boy mood 1 in a;foe b @c;guest c boy mood 1 in a;", 2);
        zooFault(six + "foe g @g;", 3);
        zooFault(six + "foe l @l;", 3);
        zooFault(six + "foe g h;foe g @h;", 3);
        zooFault(six + "foe g h;foe h @g;", 3);
        zooFault(six + "foe g h;foe g i;foe h i;foe i @g;", 3);
    }

    private static void linesThatStandOnce() {
        String fed = "pen a seats 0;guest b boy mood 1 in a;moods fed*9;";
        sentence("3", "feeds 0 to 9 (3)");
        for (int feeds = -1; feeds <= 9; feeds++) {
            BearTickets x = zoo(fed + (feeds < 0 ? "" : "feeds " + feeds + ";"));
            for (int hour = 0; hour < 10; hour++) {
                due("feeds " + feeds + ", hour " + hour, x.guest(0, 3), hour == (feeds < 0 ? 3 : feeds) ? 9 : 0);
                x.hour();
            }
        }
        zooFault("feeds @10;", 4);
        zooFault("feeds @-1;", 1);

        // He takes in 7, so that is what there is for tyres.
        String tyred = "pen a seats 1;guest b boy mood 2 in a;animal c likes boy coins 7;moods 1;";
        sentence("3, 10", "tyre (mood 1 to 9, costs 0 to 99; 3 5)");
        BearTickets x = zoo(tyred);
        x.hour();
        due("3 more", x.tyre(0), 4);
        due("for 5", x.count(6), 2);
        x = zoo(tyred + "tyre 1 costs 0;");
        due("1 more", x.tyre(0), 3);
        due("for nothing", x.count(6), 0);
        x = zoo("pen a seats 1;guest b boy mood 2 in a;animal c likes boy coins 999;sees 99;moods 0;tyre 9 costs 99;");
        x.hour();
        due("9 more", x.tyre(0), 9);
        due("for 99", x.count(6), 0);
        zooFault("tyre @0 costs 1;", 4);
        zooFault("tyre @10 costs 1;", 4);
        zooFault("tyre 1 costs @100;", 4);

        String wet = "pen a seats 1;guest b boy mood 1 in a;animal c likes boy coins 1;moods watched;";
        sentence("3, 22", "rain 0 to 10 (0)");
        due("not told", zoo(wet).rain(0, 1), 0);
        due("0", zoo(wet + "rain 0;").rain(0, 1), 0);
        due("1", zoo(wet + "rain 1;").rain(0, 1), 100000);
        due("10", zoo(wet + "rain 10;").rain(0, 1), 1000000);
        zooFault("rain @11;", 4);

        sentence("3", "feeds, tyre, rain, sees, moods: once each");
        due("each once", zoo("moods 1;sees 1;rain 1;tyre 1 costs 1;feeds 1;").count(0), 0);
        zooFault("feeds 3;@feeds 3;", 3);
        zooFault("tyre 3 costs 5;@tyre 3 costs 5;", 3);
        zooFault("rain 0;@rain 0;", 3);
        zooFault("sees 1;@sees 1;", 3);
        zooFault("moods 1;@moods 1;", 3);
        zooFault("moods 1;sees 1;rain 1;tyre 1 costs 1;feeds 1;@rain 1;", 3);
        x = zoo("feeds 1;sees 1;");
        feed(x, "feeds 1;sees 1;");
        due("once in each text", x.zoo(), 0);
    }

    private static void linesOfDays() {
        sentence("4, 26", "DAYS: any number of lines, 40 lines at most");
        BearTickets x = zoo(PARK);
        days(x, "");
        due("none", x.count(9), 0);
        days(x, times(40, "hour;"));
        due("40", x.count(9), 40);
        daysFault(x, times(40, "hour;") + "@hour;", 5);
        daysFault(x, times(40, "hour;") + "@hour", 5);
        daysFault(x, times(40, "hour;") + "\n@tyre zed;", 5);
        daysFault(x, times(40, "hour;") + "@move ann zed;", 5);
        due("the 40 stay", x.count(9), 40);
        days(x, " \n");
        due("none", x.count(9), 0);

        sentence("4", "(a GUEST to a PEN; a GUEST)");
        days(x, "move dot elm;tyre dot;hour;");
        daysFault(x, "move @elm elm;", 2);
        daysFault(x, "move @bear elm;", 2);
        daysFault(x, "move @zed elm;", 2);
        daysFault(x, "move dot @dot;", 2);
        daysFault(x, "move dot @bear;", 2);
        daysFault(x, "move dot @zed;", 2);
        daysFault(x, "tyre @elm;", 2);
        daysFault(x, "tyre @zed;", 2);
        daysFault(x, "move dot@;", 1);
        daysFault(x, "tyre@;", 1);
        daysFault(x, "move dot elm@", 1);
        daysFault(x, "hour @dot;", 1);
        daysFault(x, "@feeds 1;", 1);
        daysFault(x, "@dot;", 1);
        due("the three stay", x.count(9), 3);

        sentence("4", "DAYS likewise: 0, or its FAULT (all stays then)");
        x = zoo(PARK);
        days(x, "hour;hour;");
        int[] ahead = sight(x);
        daysFault(x, "move ann ash;hour;hour;@7;", 1);
        dueSame("a fault", sight(x), ahead);
        x = new BearTickets();
        daysFault(x, "hour;tyre @ann;", 2);
        due("no days of a new object", x.count(9), 0);
        days(x, "hour;");
        due("days of no zoo", x.count(9), 1);

        sentence("4", "DAYS are the DAYS");
        x = zoo(PARK);
        days(x, "hour;hour;hour;");
        days(x, "hour;");
        due("the new ones alone", x.count(9), 1);
        due("one hour", x.judged(2), 18);
        days(x, "");
        due("none", x.judged(2), 0);
    }

    private static void names() {
        sentence("3, 4", "A NAME is another WORD than (each word of the language)");
        BearTickets x = zoo(PARK);
        for (String word : RESERVED) {
            zooFault("pen @" + word + " seats 1;", 1);
            zooFault("pen a seats 1;guest @" + word + " boy mood 1 in a;", 1);
            zooFault("animal @" + word + " likes boy coins 1;", 1);
            zooFault("path @" + word, 1);
            zooFault("pen a seats 1;path a @" + word, 1);
            zooFault("foe @" + word, 1);
            zooFault("pen a seats 1;guest b boy mood 1 in @" + word, 1);
            daysFault(x, "move @" + word, 1);
            daysFault(x, "move ann @" + word, 1);
            daysFault(x, "tyre @" + word, 1);
        }

        sentence("3, 4", "A NAME is another WORD than ...: the facts are not among these");
        for (String word : FACTS) {
            x = zoo("pen " + word + " seats 1;guest b boy mood 1 in " + word + ";sees liked+humour+others;");
            due("a pen " + word, x.count(0), 1);
            x = zoo("pen a seats 1;pen c seats 1;guest " + word + " boy mood 1 in a;moods watched+fed;");
            days(x, "move " + word + " c;");
            due("a guest " + word, x.judged(0), -1);
            due("an animal " + word, zoo("animal " + word + " likes boy coins 1;").count(2), 1);
        }

        sentence("3", "no two (PENS, GUESTS, ANIMALS) are alike");
        zooFault("pen a seats 1;pen @a seats 1;", 3);
        zooFault("pen a seats 1;guest @a boy mood 1 in a;", 3);
        zooFault("pen a seats 1;animal @a likes boy coins 1;", 3);
        zooFault("pen a seats 1;guest b boy mood 1 in a;pen @b seats 1;", 3);
        zooFault("pen a seats 1;guest b boy mood 1 in a;guest @b boy mood 1 in a;", 3);
        zooFault("pen a seats 1;guest b boy mood 1 in a;animal @b likes boy coins 1;", 3);
        zooFault("animal a likes boy coins 1;pen @a seats 1;", 3);
        zooFault("pen b seats 1;animal a likes boy coins 1;guest @a boy mood 1 in b;", 3);
        zooFault("animal a likes boy coins 1;animal @a likes boy coins 1;", 3);
        zooFault(SIX_PENS + SIX_GUESTS + "animal @f likes boy coins 1;", 3);
        zooFault(SIX_PENS + SIX_GUESTS + "animal @l likes boy coins 1;", 3);
        zooFault(FIVE_ANIMALS + "pen @q seats 1;", 3);
        due("names of a zoo that is gone", sameNamesAgain(), 0);
    }

    private static int sameNamesAgain() {
        BearTickets x = zoo("pen a seats 1;guest b boy mood 1 in a;animal c likes boy coins 1;");
        feed(x, "pen c seats 1;guest a boy mood 1 in c;animal b likes boy coins 1;");
        return x.zoo();
    }

    // ==== Laws

    // The worth of the pen of a boy of mood 3, alone, to one that likes boys.
    private static void law(String law, int worth) {
        BearTickets x = zoo("pen a seats 1;guest b boy mood 3 in a;animal c likes boy coins 999;sees " + law + ";");
        due("worth by " + law, x.worth(0, 0), worth);
    }

    private static void lawTexts() {
        sentence("3", "E: TEST { and TEST or or TEST }, from the left");
        law("1 or 1 and 0", 0);
        law("0 and 0 or 1", 1);
        law("0 and 1 or 1 and 1 or 0", 1);
        zooFault("sees 1 and @and 1;", 1);
        zooFault("sees 1 or@;", 1);
        zooFault("sees @and 1;", 1);
        zooFault("sees @;", 1);

        sentence("3", "TEST: SUM, or SUM < SUM, or SUM = SUM (one of these alone)");
        law("2<3", 1);
        law("3<3", 0);
        law("4<3", 0);
        law("3=3", 1);
        law("2=3", 0);
        law("1+1=3-1", 1);
        zooFault("sees 1<2@<3;", 1);
        zooFault("sees 1=2@=3;", 1);
        zooFault("sees 1<2@=3;", 1);
        zooFault("sees 1<@=3;", 1);
        law("(1<2)<3", 1);

        sentence("3", "SUM: PRODUCT { + or - PRODUCT }; PRODUCT: PART { * PART }");
        law("20-3-2", 15);
        law("20-3+2", 19);
        law("2+3*4", 14);
        law("2*3*4-4*5", 4);
        law("1" + times(94, "+1"), 95);
        law("1" + times(450, "+1") + "-410", 41);
        law("1" + times(450, "*1"), 1);
        law("0" + times(180, " or 0") + " or 9", 1);
        zooFault("sees @-1;", 1);
        zooFault("sees @+1;", 1);
        zooFault("sees 1+@;", 1);
        zooFault("sees 1*@*1;", 1);

        sentence("3", "PART: a NUMBER, a fact, not PART, ( E )");
        law("not 0*7", 7);
        law("not(0*7)", 1);
        law("not 0+7", 8);
        law("0<not 0", 1);
        zooFault("sees (@);", 1);
        zooFault("sees (1@;", 1);
        zooFault("sees 1@);", 1);
        zooFault("sees (1 @2);", 1);
        zooFault("sees not@;", 1);
        zooFault("sees 1 @not 1;", 1);
        zooFault("sees @x;", 1);
        zooFault("sees 1@", 1);

        sentence("3", "no PART lies within 5 of not and ( )");
        law("((((7))))", 7);
        law("not not not not 7", 1);
        law("not(not(7))", 1);
        law("((((1))))+((((2))))*((((3))))", 7);
        law("not not not not 1+not not not not 1", 2);
        law("(((not 0+not 0)))", 2);
        zooFault("sees (((((@7)))));", 5);
        zooFault("sees not not not not not @7;", 5);
        zooFault("sees not(not(not @7));", 5);
        zooFault("sees ((((not @liked))));", 5);
        zooFault("sees ((((1+(@1)))));", 5);
        zooFault("sees ((((1))))+(((((@1)))));", 5);
        zooFault("moods (((((@fed)))));", 5);

        sentence("3", "Facts: of sees liked, humour, others; of moods humour, others, watched, fed");
        due("of sees", zoo("sees liked+humour+others;").count(0), 0);
        due("of moods", zoo("moods humour+others+watched+fed;").count(0), 0);
        zooFault("sees @watched;", 1);
        zooFault("sees 1+@fed;", 1);
        zooFault("moods @liked;", 1);
        zooFault("moods (1*@liked);", 1);
        zooFault("sees @mood;", 1);
        zooFault("moods @mood;", 1);
    }

    private static void lawValues() {
        sentence("3, 8", "Of not, and, or, < and = comes 1 or 0; what is not 0 is so");
        law("5 and 7", 1);
        law("5 or 0", 1);
        law("0 or 5", 1);
        law("5 and 0", 0);
        law("0 or 0", 0);
        law("(0-1) and 1", 1);
        law("1 and (0-1)", 1);
        law("(0-1) or 0", 1);
        law("not (0-1)", 0);
        law("not 2", 0);
        law("not 0", 1);
        law("7 and 7 and 7", 1);
        law("(5 and 0)+7", 7);
        law("(0 or 0)+7", 7);
        law("(3<3)+7", 7);
        law("(2=3)+7", 7);
        law("not 5+7", 7);
        law("(5 and 9)*7", 7);
        law("(5 or 9)*7", 7);

        sentence("3, 8", "ints wrap");
        // 9999 * 9999 is 99,980,001: 21 of it are 2,099,580,021, 22 are beyond 2 ^ 31, 43 are 2 ^ 32 + 4,172,747.
        law("9999*9999*21", 99);
        law("9999*9999*22", 0);
        law("9999*9999*22<0", 1);
        law("9999*9999*43=417*9999+3*999+167", 1);
        law("9999*9999*21+9999*9999<0", 1);
        law("0<0-9999*9999*21-9999*9999", 1);
        law("9999*9999*43", 99);
        // 256 * 256 * 256 * 256 is 0, and so is what is left by it.
        law("256*256*256*256", 0);
        law("256*256*256*256+7", 7);
        law("256*256*256*128-1=9999*9999*21+4790*9999+8416", 1);

        sentence("3, 8", "liked (1 if the ANIMAL likes the GUEST's KIND, else 0), humour (his mood), others (how many more GUESTS are in his PEN)");
        BearTickets x = zoo(SIX_PENS + "guest g plain mood 0 in a;guest h boy mood 9 in a;guest i boy mood 4 in b;animal m likes boy coins 1;sees liked*50+humour*4+others;");
        due("two in a pen", x.worth(0, 0), 1 + 50 + 36 + 1);
        due("one alone", x.worth(0, 1), 50 + 16);
        x = zoo("pen a seats 1;guest g boy mood 0 in a;guest h boy mood 0 in a;guest i boy mood 0 in a;guest j boy mood 0 in a;"
            + "guest k boy mood 0 in a;guest l boy mood 9 in a;animal m likes poet coins 1;sees others*2;");
        due("six in a pen", x.worth(0, 0), 60);

        sentence("3, 6", "watched (how many ANIMALS see his PEN in that hour), fed (1 in the feeding hour, else 0)");
        x = zoo("pen a seats 9;pen b seats 9;guest g boy mood 5 in a;guest h boy mood 0 in b;" + FIVE_ANIMALS + "sees humour;moods watched+fed*4;feeds 0;");
        due("five, and fed", x.guest(0, 3), 9);
        due("none, and fed", x.guest(1, 3), 4);
        x = zoo("pen a seats 3;guest g boy mood 5 in a;" + FIVE_ANIMALS + "moods watched+fed*4;");
        due("three, not fed", x.guest(0, 3), 3);

        sentence("3, 8", "Without sees: liked * 5 + humour - others");
        x = zoo("pen a seats 1;pen b seats 1;pen c seats 1;guest g boy mood 0 in a;guest h poet mood 9 in b;guest i boy mood 4 in c;guest j poet mood 1 in c;"
            + "animal m likes boy coins 1;");
        due("5 + 0 - 0", x.worth(0, 0), 5);
        due("0 + 9 - 0", x.worth(0, 1), 9);
        due("5 + 4 - 1 and 0 + 1 - 1", x.worth(0, 2), 8);

        sentence("3, 6", "Without moods: humour - 1 + watched + fed * 2 - others");
        x = zoo("pen a seats 9;pen b seats 0;guest g boy mood 3 in a;guest h boy mood 5 in b;guest i boy mood 3 in b;" + "animal m likes boy coins 0;animal n likes boy coins 0;");
        due("3 - 1 + 2", x.guest(0, 3), 4);
        due("5 - 1 - 1", x.guest(1, 3), 3);
        due("3 - 1 - 1", x.guest(2, 3), 1);
        hours(x, 3);
        // By then: 6, 0 (5, 3, 1, 0), 0 (3, 1, 0, 0); the fed ones have 2 more.
        due("6 - 1 + 2 + 2", x.guest(0, 3), 9);
        due("0 - 1 + 2 - 1", x.guest(1, 3), 0);
        x.move(2, 0);
        due("0 - 1 + 2", x.guest(1, 3), 1);
        due("6 - 1 + 2 + 2 - 1", x.guest(0, 3), 8);
    }

    // ==== Faults

    private static void faults() {
        sentence("3, 4", "FAULTS, kind + 16 * the place (from 0) of a token");
        zooFault("@x", 1);
        zooFault("  \n@x", 1);
        zooFault("pen a seats @10;", 4);
        zooFault(times(998, " ") + "@xy", 1);

        sentence("3, 4", "the end being one at the text's length");
        zooFault("pen@", 1);
        zooFault("pen  \n @", 1);
        zooFault("pen a seats 1@", 1);
        zooFault("sees (1 @", 1);
        BearTickets x = zoo(PARK);
        daysFault(x, "hour@", 1);
        daysFault(x, "move ann \n@", 1);
        due("1,000 signs", feed(x, "hour" + times(996, " ")), 1000);
        due("the end of 1,000 signs", x.days(), 1 + 16 * 1000);
        feed(x, "rain 1" + times(994, " "));
        due("the end of 1,000 signs", x.zoo(), 1 + 16 * 1000);

        sentence("3, 4", "of the first token from the left that is wrong");
        zooFault("pen a seats @10;pen a seats ?;", 4);
        zooFault("pen a seats 1;path @b b 99;?", 2);
        zooFault("pen a seats 1;path a @a 99;", 3);
        zooFault("feeds 1;@feeds 99;", 3);
        zooFault("rain 1 @rain 1;", 1);
        daysFault(x, "move @zed zed;", 2);
        daysFault(x, "hour;@hours;" + times(40, "hour;"), 1);

        sentence("3, 4", "the least: 1 it is none, or can't stand there");
        zooFault("sees (((((@);", 1);
        zooFault("sees (((((@x;", 1);
        zooFault("sees (((((@watched;", 1);
        zooFault("sees (((((@", 1);
        zooFault("sees (((((@12345;", 1);
        zooFault("sees not not not not not @and 1;", 1);
        zooFault("feeds @12345;", 1);
        zooFault("pen a seats 1;path a @pen 1;", 1);
        zooFault(SIX_PENS + "@pens x seats 1;", 1);
        daysFault(x, times(40, "hour;") + "@hours;", 1);
        daysFault(x, times(40, "hour;") + "@;", 1);
        daysFault(x, times(40, "hour;") + "@ann;", 1);
        daysFault(x, times(40, "hour;") + "@?", 1);

        sentence("3, 4", "2 a NAME of no PEN, of no GUEST told");
        zooFault("path @a a 1;", 2);
        zooFault("foe @a a;", 2);
        zooFault("pen a seats 1;foe @a a;", 2);

        sentence("3", "3 a NAME told already; the second one of path, foe that is the first one or of a pair told");
        zooFault("pen a seats 1;pen @a seats 99;", 3);
        zooFault("pen a seats 1;pen b seats 1;path a b 1;path b @a 99;", 3);
        zooFault("pen a seats 1;guest b boy mood 1 in a;foe b @b;", 3);

        sentence("3", "4 a NUMBER that is not as told");
        zooFault("pen a seats @10", 4);
        zooFault("tyre @0;", 4);
        zooFault("tyre 1 costs @100?", 4);

        sentence("3, 4", "5 one too many: the words pen, guest of a seventh, animal of a sixth, the first word of a 41st line of DAYS");
        zooFault(SIX_PENS + "@pen pen;", 5);
        zooFault(SIX_PENS + SIX_GUESTS + "@guest a king;", 5);
        zooFault(FIVE_ANIMALS + "@animal m likes cat;", 5);
        daysFault(x, times(40, "hour;") + "@hour 1;", 5);

        sentence("3", "5 not, or a PART, within 5 others");
        zooFault("sees not not not not not @not 1;", 5);
        zooFault("sees (((((@not 1)))));", 5);
        zooFault("sees (((((@(1))))));", 5);
        zooFault("sees (((((@9999 1;", 5);
        zooFault("sees not(not(not @(1)));", 5);
        zooFault("sees " + times(900, "(").substring(0, 5) + "@" + times(895, "("), 5);
        zooFault("sees " + times(5, "not ") + "@" + times(240, "not "), 5);
    }

    private static void afterZoos() {
        sentence("3", "0, or its FAULT (all stays then)");
        BearTickets x = zoo(PARK);
        days(x, "hour;hour;");
        x.hour();
        x.tyre(2);
        x.move(1, 1);
        x.tell(1);
        x.mark(2, false);
        int[] ahead = sight(x);
        feed(x, "pen a seats 1;guest b boy mood 1 in a;animal c likes boy coins 1;feeds 0;tyre 9 costs 0;rain 9;sees 7;moods 7;?");
        due("a fault", x.zoo() % 16, 1);
        dueSame("a fault", sight(x), ahead);
        due("the mark stays", x.mark(2, true), true);
        due("undo is gone by the mark alone", x.undo(), false);

        sentence("3", "Without a FAULT a ZOO is the ZOO from then on: hour 0, GUESTS and moods as told, nothing taken, ANIMALS have their coins, no DAYS, nothing TOLD, nothing can be undone, no MARK is there");
        x = zoo(PARK);
        int[] start = sight(x);
        days(x, "hour;");
        for (int mark = 0; mark < 4; mark++) {
            x.mark(mark, false);
        }
        x.hour();
        x.tyre(0);
        x.move(1, 1);
        x.tell(1);
        x.tell(-1);
        feed(x, PARK);
        due("the same zoo again", x.zoo(), 0);
        dueSame("as at first", sight(x), start);
        due("no undo", x.undo(), false);
        for (int mark = 0; mark < 4; mark++) {
            due("no mark", x.mark(mark, true), false);
        }
        due("an empty zoo", x.zoo(), 0);
        dueSame("nothing, as in a new object", sight(x), sight(new BearTickets()));

        sentence("3", "ZOO: what was told before is told no more");
        x = zoo("pen a seats 1;pen b seats 0;path a b 7;guest c boy mood 1 in a;guest d boy mood 1 in b;animal e likes boy coins 10;foe c d;feeds 0;tyre 9 costs 0;rain 10;sees 50;moods 7;");
        due("by its laws", x.worth(0, 0), 50);
        feed(x, "pen a seats 1;pen b seats 0;guest c boy mood 1 in a;guest d boy mood 1 in b;animal e likes boy coins 10;");
        due("another", x.zoo(), 0);
        due("no path", x.walk(0, 0), -1);
        due("no foe", x.apart(-1), 1);
        due("foes", x.count(4), 0);
        due("paths", x.count(3), 0);
        due("worth by the plain law", x.worth(0, 0), 6);
        due("not fed", x.guest(1, 3), 0);
        due("no rain", x.rain(0, 1), 0);
        due("a tyre costs 5", x.tyre(0), -1);
        due("move to one who was a foe", x.move(0, 1), true);
        x = zoo(CROWDED);
        for (int i = 0; i < 2; i++) {
            feed(x, CROWDED);
            due("the same again", x.zoo(), 0);
        }
        feed(x, "pen g seats 1;pen h seats 1;pen m seats 1;guest a boy mood 0 in g;guest b poet mood 0 in h;animal l likes plain coins 10;");
        due("its names for others", x.zoo(), 0);
        due("no path", x.walk(0, 0), -1);
        due("paths", x.count(3), 0);
        due("foes", x.count(4), 0);
        due("worth by the plain law", x.worth(0, 0), 0);
        due("mood by the plain law", x.guest(0, 3), 0);
        due("not fed", x.guest(1, 3), 0);
        due("no rain", x.years(1, 3, 0), 0);
        due("a tyre costs 5", x.tyre(0), -1);
        due("a tyre is 3", x.tyres(), 3);
        due("no foe is there", x.move(0, 1), true);
        for (String gone : new String[] {"c", "d", "i", "k", "q"}) {
            daysFault(x, "tyre @" + gone + ";", 2);
            daysFault(x, "move a @" + gone + ";", 2);
        }
        due("no guest of that name", feed(x, "tyre l;"), 7);
        due("no guest of that name", x.days(), 2 + 16 * 5);
        for (int i = 0; i < 2; i++) {
            feed(x, CROWDED);
            due("the same again", x.zoo(), 0);
        }
        feed(x, "pen a seats 1;guest g boy mood 0 in a;animal m likes poet coins 9;sees 7;moods 3;rain 0;");
        due("other laws", x.zoo(), 0);
        due("worth by them", x.worth(0, 0), 7);
        due("mood by them", x.guest(0, 3), 3);
        for (int i = 0; i < 2; i++) {
            feed(x, CROWDED);
            due("the same again", x.zoo(), 0);
        }
        feed(x, "pen a seats 1;guest g boy mood 1 in a;animal m likes boy coins 9;moods watched;");
        due("no rain told", x.zoo(), 0);
        due("it does not rain", x.rain(0, 6), 0);
        x = zoo("pen a seats 1;guest g boy mood 3 in a;animal m likes boy coins 9;moods 7 and not 0;sees not 7;");
        due("of a shorter law no more than it says", x.worth(0, 0), 0);
        due("of the longer one", x.guest(0, 3), 1);

        sentence("1, 3", "At first: nothing");
        x = new BearTickets();
        zooFault("pen a seats 1;@x", 1);
        feed(x, "pen a seats 1;x");
        x.zoo();
        due("nothing behind a fault", x.count(0), 0);
        dueSame("as new", sight(x), sight(new BearTickets()));
    }

    // ==== What one sees

    private static void newObject() {
        sentence("1", "BearTickets(): Nothing");
        BearTickets x = new BearTickets();
        for (int what = 0; what <= 12; what++) {
            due("count " + what, x.count(what), 0);
        }
        due("pen", x.pen(0, 0), -1);
        due("guest", x.guest(0, 0), -1);
        due("animal", x.animal(0, 0), -2);
        due("worth", x.worth(0, 0), -1);
        due("move", x.move(0, 0), false);
        due("tyre", x.tyre(0), -1);
        due("undo", x.undo(), false);
        due("judged 0", x.judged(0), -1);
        due("judged 1", x.judged(1), -1);
        due("judged 2", x.judged(2), 0);
        due("show 0", x.show(0), 0);
        due("show 1", x.show(1), 0);
        due("show 2", x.show(2), -1);
        due("sets 0", x.sets(0), 16);
        due("next", x.next(), -1);
        due("apart", x.apart(-1), 0);
        due("apart of one", x.apart(0), -2);
        due("tyres", x.tyres(), 0);
        due("walk", x.walk(0, 0), -1);
        due("rain", x.rain(-1, 1), 0);
        due("rain of one", x.rain(0, 1), -2);
        due("first", x.first(1), -1);
        due("years", x.years(0, 100, 0) + x.years(0, 100, 1) + x.years(0, 100, 2), 0);
        for (int mark = 0; mark < 4; mark++) {
            due("mark", x.mark(mark, true), false);
        }
        due("tell of a pen", x.tell(0), false);
        due("tell of none", x.tell(-1), true);
        due("sets: it sees nothing by any", x.sets(0), 16);
        due("hour", x.hour(), 0);
        due("the hour", x.count(5), 1);

        sentence("1", "NONE = -1");
        due("NONE", BearTickets.NONE, -1);
    }

    private static void pensSeen() {
        sentence("5", "Of a PEN: seats, GUESTS as bits, ANIMALS that see it; NONE: others");
        BearTickets x = zoo(PARK);
        int[][] want = {{2, 3, 3}, {1, 4, 4}, {0, 8, 0}};
        for (int pen = 0; pen < 3; pen++) {
            for (int what = 0; what < 3; what++) {
                due("pen " + pen + " " + what, x.pen(pen, what), want[pen][what]);
            }
            for (int what : new int[] {LOW, -2, -1, 3, 4, 12, HIGH}) {
                due("another what " + what, x.pen(pen, what), -1);
            }
        }
        for (int pen : new int[] {LOW, -2, -1, 3, 4, 5, 6, 7, HIGH}) {
            for (int what = -1; what <= 3; what++) {
                due("another pen " + pen, x.pen(pen, what), -1);
            }
        }

        sentence("5", "GUESTS as bits (none, all six); ANIMALS as bits (none, all five)");
        x = zoo("pen a seats 0;pen b seats 9;" + SIX_GUESTS.replaceAll("in .;", "in b;") + FIVE_ANIMALS + "sees 1;");
        due("no guests", x.pen(0, 1), 0);
        due("six", x.pen(1, 1), 63);
        due("no animals", x.pen(0, 2), 0);
        due("five", x.pen(1, 2), 31);

        sentence("6", "Of a GUEST: KIND, mood, PEN, mood behind an HOUR now; NONE: others");
        x = zoo(PARK);
        int[][] guests = {{0, 3, 0, 3}, {1, 5, 0, 5}, {3, 1, 1, 1}, {2, 2, 2, 1}};
        for (int guest = 0; guest < 4; guest++) {
            for (int what = 0; what < 4; what++) {
                due("guest " + guest + " " + what, x.guest(guest, what), guests[guest][what]);
            }
            for (int what : new int[] {LOW, -2, -1, 4, 5, HIGH}) {
                due("another what " + what, x.guest(guest, what), -1);
            }
        }
        for (int guest : new int[] {LOW, -2, -1, 4, 5, 6, 7, HIGH}) {
            for (int what = -1; what <= 4; what++) {
                due("another guest " + guest, x.guest(guest, what), -1);
            }
        }

        sentence("7", "Of an ANIMAL: the KIND, coins left, the PEN it sees (NONE: none), what it pays; -2: others");
        int[][] animals = {{1, 20, 0, 11}, {3, 9, 0, 6}, {2, 99, 1, 1}};
        for (int animal = 0; animal < 3; animal++) {
            for (int what = 0; what < 4; what++) {
                due("animal " + animal + " " + what, x.animal(animal, what), animals[animal][what]);
            }
            for (int what : new int[] {LOW, -2, -1, 4, 5, HIGH}) {
                due("another what " + what, x.animal(animal, what), -2);
            }
        }
        for (int animal : new int[] {LOW, -2, -1, 3, 4, 5, 6, HIGH}) {
            for (int what = -1; what <= 4; what++) {
                due("another animal " + animal, x.animal(animal, what), -2);
            }
        }
        x = zoo("pen a seats 0;guest b boy mood 1 in a;animal c likes boy coins 5;");
        due("it sees none", x.animal(0, 2), -1);
        due("it pays nothing", x.animal(0, 3), 0);

        sentence("8", "WORTH; NONE: others");
        x = zoo(PARK);
        int[][] worths = {{11, 1, 2}, {6, 6, 2}, {6, 1, 7}};
        for (int animal = 0; animal < 3; animal++) {
            for (int pen = 0; pen < 3; pen++) {
                due("worth " + animal + " " + pen, x.worth(animal, pen), worths[animal][pen]);
            }
        }
        for (int index : new int[] {LOW, -2, -1, 3, 4, 5, 6, 7, HIGH}) {
            due("another animal", x.worth(index, 0), -1);
            due("another pen", x.worth(0, index), -1);
            due("neither", x.worth(index, index), -1);
        }
        due("nothing is changed by looking", x.count(5) + x.count(6) + x.count(11), 0);
        x = zoo("pen a seats 1;guest b plain mood 1 in a;guest c single mood 1 in a;animal d likes plain coins 9;animal e likes single coins 9;");
        for (int i = 0; i < 3; i++) {
            due("the same again", x.worth(0, 0), 5);
            due("the same again", x.worth(1, 0), 5);
        }
    }

    // ==== An hour

    private static void hoursPass() {
        sentence("8", "WORTH: the E of sees (0 to 99) of all GUESTS in it, together");
        BearTickets x = zoo("pen a seats 1;pen b seats 1;pen c seats 1;guest d boy mood 1 in a;guest e poet mood 1 in a;guest f boy mood 0 in b;"
            + "animal g likes boy coins 1;animal h likes poet coins 1;animal i likes plain coins 1;sees liked*200-50+humour*50;");
        due("200 is 99, 0 is 0", x.worth(0, 0), 99);
        due("0 and 200", x.worth(1, 0), 99);
        due("nobody", x.worth(0, 2), 0);
        due("150 is 99", x.worth(0, 1), 99);
        due("-50 is 0", x.worth(1, 1), 0);
        law("98", 98);
        law("99", 99);
        law("100", 99);
        law("0", 0);
        law("0-1", 0);
        x = zoo("pen a seats 1;pen b seats 9;" + SIX_GUESTS.replaceAll("in .;", "in b;") + "animal m likes boy coins 999;sees 99;");
        due("six of 99", x.worth(0, 1), 594);
        due("it pays 594", x.hour(), 594);
        due("it pays what is left", x.hour(), 405);
        due("it pays nothing", x.hour(), 0);
        // Three guests: -1, -1 and 5 are 0, 0 and 5, not 3.
        x = zoo("pen a seats 1;guest b boy mood 0 in a;guest c boy mood 0 in a;guest d boy mood 6 in a;animal e likes boy coins 9;sees humour-1;");
        due("below 0 takes nothing away", x.worth(0, 0), 5);

        sentence("11, 7", "of PENS with seats left");
        x = zoo("pen a seats 0;pen b seats 1;pen c seats 2;guest d boy mood 9 in a;guest e boy mood 8 in b;guest f boy mood 7 in c;"
            + "animal g likes boy coins 99;animal h likes boy coins 99;animal i likes boy coins 99;animal j likes boy coins 99;");
        due("the first one", x.animal(0, 2), 1);
        due("the second one", x.animal(1, 2), 2);
        due("the third one", x.animal(2, 2), 2);
        due("no seat is left", x.animal(3, 2), -1);
        due("taken", x.hour(), 13 + 12 + 12);
        due("a seat is gone for that hour alone", x.animal(0, 2), 1);

        sentence("11, 7", "of WORTH above 0");
        x = zoo("pen a seats 1;pen b seats 1;guest c boy mood 0 in a;guest d boy mood 1 in b;animal e likes poet coins 9;animal f likes poet coins 9;");
        due("1 is above 0", x.animal(0, 2), 1);
        due("0 is not", x.animal(1, 2), -1);

        sentence("11, 7", "the one of the greatest WORTH, of equal ones the first (none: it sees nothing)");
        x = zoo("pen a seats 1;pen b seats 1;pen c seats 1;guest d boy mood 4 in a;guest e boy mood 5 in b;guest f boy mood 5 in c;"
            + "animal g likes boy coins 99;animal h likes boy coins 99;animal i likes boy coins 99;animal j likes boy coins 99;");
        int[] seen = {1, 2, 0, -1};
        for (int i = 0; i < 4; i++) {
            due("animal " + i, x.animal(i, 2), seen[i]);
        }

        sentence("11, 7", "it pays its WORTH, or the coins it has left, if these are less");
        String paying = "pen a seats 1;guest b boy mood 2 in a;moods 2;animal c likes boy coins ";
        for (int coins : new int[] {0, 1, 6, 7, 8, 999}) {
            x = zoo(paying + coins + ";");
            due("pays", x.animal(0, 3), Math.min(coins, 7));
            due("hour", x.hour(), Math.min(coins, 7));
            due("coins left", x.animal(0, 1), Math.max(coins - 7, 0));
        }
        x = zoo("pen a seats 1;guest b boy mood 2 in a;animal c likes boy coins 0;animal d likes boy coins 9;");
        due("one without coins takes the seat", x.pen(0, 2), 1);
        due("nothing is taken", x.hour(), 0);
        due("it is watched all the same", x.guest(0, 1), 2);

        sentence("11, 6", "Then each GUEST's mood is the E of moods (0 to 9)");
        for (int mood = 0; mood <= 12; mood++) {
            x = zoo("pen a seats 0;guest b boy mood 5 in a;moods " + mood + ";");
            due("moods " + mood, x.guest(0, 3), Math.min(mood, 9));
            x.hour();
            due("moods " + mood, x.guest(0, 1), Math.min(mood, 9));
        }
        x = zoo("pen a seats 0;guest b boy mood 5 in a;moods humour-6;");
        due("below 0", x.guest(0, 3), 0);
        x = zoo("pen a seats 0;guest b boy mood 5 in a;moods 9999*9999*22;");
        due("wrapped round", x.guest(0, 3), 0);

        sentence("11", "by how all were ahead of it");
        x = zoo("pen a seats 1;guest b boy mood 1 in a;guest c boy mood 1 in a;animal d likes boy coins 3;moods others+watched*2+humour;");
        x.hour();
        due("the first", x.guest(0, 1), 4);
        due("the second, by the same", x.guest(1, 1), 4);

        sentence("11", "the feeding hour is one whose number modulo 10 is feeds. Then it is the next hour");
        x = zoo("pen a seats 0;guest b boy mood 1 in a;moods fed;feeds 9;");
        for (int hour = 0; hour < 40; hour++) {
            due("the hour", x.count(5), hour);
            due("fed in hour " + hour, x.guest(0, 3), hour % 10 == 9 ? 1 : 0);
            x.hour();
        }
        x = zoo("pen a seats 0;guest b boy mood 1 in a;moods fed;feeds 0;");
        due("fed in hour 0", x.guest(0, 3), 1);
        hours(x, 10);
        due("fed in hour 10", x.guest(0, 3), 1);

        sentence("11", "HOUR: what is taken by it");
        x = zoo(PARK);
        due("by the first", x.hour(), 18);
        due("by the second alone", x.hour(), 13);
        due("in all", x.count(6), 31);
        due("no pens", zoo("animal a likes boy coins 9;").hour(), 0);
        due("no animals", zoo("pen a seats 9;guest b boy mood 9 in a;").hour(), 0);
        // All five see the last pen: 0 coins, 1, 2, 3, and one pays in full.
        x = zoo(SIX_PENS + SIX_GUESTS + FIVE_ANIMALS + "sees (humour=9)*50;moods watched;");
        due("six pens, six guests, five animals", x.hour(), 0 + 1 + 2 + 3 + 50);
        due("coins", x.count(8), 949);
        due("they pace but for the last", x.count(7), 31);
        due("watched by five", x.guest(5, 1), 5);
        due("no guests", zoo("pen a seats 9;animal c likes boy coins 9;sees 9;").hour(), 0);

        sentence("26", "A GUEST of mood 0 PACES");
        x = zoo(SIX_PENS + SIX_GUESTS);
        due("mood 0, not 1", x.count(7), 1);
        x = zoo(SIX_PENS + SIX_GUESTS.replaceAll("mood .", "mood 0"));
        due("all", x.count(7), 63);
    }

    // ==== By hand

    private static void moves() {
        sentence("9", "MOVE: a GUEST to another PEN, if no foe of his is there; false: others, he is there, a foe is");
        BearTickets x = zoo(PARK);
        int[] ahead = sight(x);
        for (int index : new int[] {LOW, -2, -1, 4, 5, 6, 7, HIGH}) {
            due("another guest " + index, x.move(index, 1), false);
        }
        for (int index : new int[] {LOW, -2, -1, 3, 4, 5, 6, 7, 8, HIGH}) {
            due("another pen " + index, x.move(1, index), false);
        }
        due("neither", x.move(4, 3), false);
        due("he is there", x.move(0, 0), false);
        due("a foe is there", x.move(0, 1), false);
        due("a foe is there", x.move(2, 0), false);
        dueSame("refused", sight(x), ahead);
        due("move", x.move(0, 2), true);
        due("his pen", x.guest(0, 2), 2);
        due("the foe is gone", x.move(2, 0), true);
        due("a pen without seats and many in it", x.move(1, 2), true);
        due("three can be undone", x.count(11), 3);
        x = zoo("pen a seats 9;pen b seats 0;" + SIX_GUESTS.replaceAll("in .;", "in a;") + "foe g l;");
        for (int guest = 0; guest < 5; guest++) {
            due("into one pen", x.move(guest, 1), true);
        }
        due("but for a foe", x.move(5, 1), false);
        due("the foe goes", x.move(0, 0), false);
        due("the others", x.pen(1, 1), 31);
        x = zoo("pen a seats 9;guest b boy mood 1 in a;guest c boy mood 1 in a;pen d seats 1;foe b c;");
        due("foes that share one by the text: one goes", x.move(0, 1), true);
        due("and can't come back", x.move(0, 0), false);
    }

    private static void tyresGiven() {
        sentence("10", "TYRE: his mood is so much more (9 at most)");
        String free = "pen a seats 0;guest b boy mood 0 in a;guest c boy mood 6 in a;guest d boy mood 9 in a;tyre 3 costs 0;";
        BearTickets x = zoo(free);
        int[] moods = {3, 6, 9, 9};
        for (int mood : moods) {
            due("tyre", x.tyre(0), mood);
            due("mood", x.guest(0, 1), mood);
        }
        due("6 and 3", x.tyre(1), 9);
        due("9 stays 9", x.tyre(2), 9);
        x = zoo(free.replace("tyre 3", "tyre 9"));
        due("0 and 9", x.tyre(0), 9);
        due("6 and 9", x.tyre(1), 9);

        sentence("10", "if so much is taken, which is less then; NONE: others, too little is taken");
        x = zoo(PARK);
        due("nothing is taken", x.tyre(0), -1);
        due("nothing to undo", x.count(11), 0);
        x.hour();
        int[] ahead = sight(x);
        for (int index : new int[] {LOW, -2, -1, 4, 5, 6, 7, HIGH}) {
            due("another guest " + index, x.tyre(index), -1);
        }
        dueSame("refused", sight(x), ahead);
        due("18", x.tyre(3), 5);
        due("12", x.count(6), 12);
        due("12", x.tyre(3), 9);
        due("just 6", x.tyre(2), 5);
        due("0", x.count(6), 0);
        due("0: too little", x.tyre(2), -1);
        due("mood", x.guest(2, 1), 5);
        due("four can be undone", x.count(11), 4);
        String costs = "pen a seats 1;guest b boy mood 1 in a;animal c likes boy coins 99;sees 7;moods 1;tyre 1 costs ";
        for (int cost = 6; cost <= 8; cost++) {
            x = zoo(costs + cost + ";");
            x.hour();
            due("7 are taken, it costs " + cost, x.tyre(0), cost <= 7 ? 2 : -1);
            due("left", x.count(6), cost <= 7 ? 7 - cost : 7);
        }
    }

    private static void undoing() {
        sentence("12", "UNDO: these and HOURS, one by one; false: nothing can be");
        BearTickets x = zoo(PARK);
        due("nothing", x.undo(), false);
        int[][] seen = new int[4][];
        seen[0] = sight(x);
        x.hour();
        seen[1] = sight(x);
        x.tyre(3);
        seen[2] = sight(x);
        x.move(3, 1);
        for (int i = 2; i >= 0; i--) {
            due("undo", x.undo(), true);
            dueSame("as ahead", sight(x), seen[i]);
        }
        due("nothing more", x.undo(), false);
        due("count 11", x.count(11), 0);

        sentence("12", "the last 16");
        for (int many : new int[] {15, 16, 17, 32, 33}) {
            x = zoo(PARK);
            hours(x, many);
            int can = Math.min(many, 16);
            due("what can be undone", x.count(11), can);
            for (int i = 0; i < can; i++) {
                due("undo", x.undo(), true);
                due("the hour", x.count(5), many - 1 - i);
                due("one less", x.count(11), can - 1 - i);
            }
            due("no more", x.undo(), false);
            due("the hour", x.count(5), many - can);
        }
        x = zoo(PARK);
        hours(x, 10);
        for (int i = 0; i < 5; i++) {
            x.undo();
        }
        hours(x, 20);
        due("what is undone is no more", x.count(11), 16);
        for (int i = 0; i < 16; i++) {
            x.undo();
        }
        due("the hour", x.count(5), 9);

        sentence("12", "UNDO: what is refused is not among the 16, nor are DAYS and what is TOLD");
        x = zoo(PARK);
        x.move(3, 1);
        hours(x, 15);
        x.move(0, 0);
        x.move(0, 1);
        x.tyre(9);
        x.tell(0);
        x.tell(2);
        days(x, "hour;");
        x.mark(0, false);
        due("16", x.count(11), 16);
        for (int i = 0; i < 16; i++) {
            due("undo", x.undo(), true);
        }
        due("the move, too", x.guest(3, 2), 2);
        due("days stay", x.count(9), 1);
        due("what is told stays", x.count(10), 1);
    }

    private static void judging() {
        sentence("13", "JUDGED: lines (NONE: none), taken; -2: others");
        BearTickets x = zoo(PARK);
        due("no lines", x.judged(0), -1);
        due("no lines", x.judged(1), -1);
        due("no lines", x.judged(2), 0);
        for (int what : new int[] {LOW, -2, -1, 3, 4, HIGH}) {
            due("another what " + what, x.judged(what), -2);
        }
        days(x, "hour;");
        due("all can be", x.judged(0), -1);
        due("nobody paces", x.judged(1), -1);
        due("taken", x.judged(2), 18);

        sentence("13", "the DAYS from the beginning");
        int[] ahead = sight(x);
        hours(x, 3);
        x.move(3, 0);
        for (int what = 0; what < 3; what++) {
            due("the same", x.judged(what), ahead[69 + what]);
        }

        sentence("13", "(a line that can't be is left out): the first line (from 0) that can't be");
        days(x, "move ann elm;hour;move bob oak;tyre ann;");
        due("a foe is there", x.judged(0), 0);
        due("12 are left", x.judged(2), 12);
        days(x, "hour;hour;move bob oak;");
        due("he is there", x.judged(0), 2);
        days(x, "tyre ann;hour;");
        due("too little is taken", x.judged(0), 0);
        due("nothing is paid", x.judged(2), 18);
        days(x, "move cid ash;move ann elm;move cid elm;");
        due("by what the lines ahead have done", x.judged(0), 2);

        sentence("13", "the first one behind which somebody PACES");
        // Fed in hour 3: 9 8 7 6 7 6 5 4 3 2 1 0.
        x = zoo("pen a seats 0;guest b boy mood 9 in a;");
        days(x, times(10, "hour;"));
        due("mood 1", x.judged(1), -1);
        days(x, times(39, "hour;") + "tyre b;");
        due("mood 0", x.judged(1), 10);
        due("the 40th line", x.judged(0), 39);
        x = zoo("pen a seats 0;pen c seats 0;guest b boy mood 0 in a;tyre 1 costs 0;");
        days(x, "move b c;");
        due("one who paces from the start, behind the first line", x.judged(1), 0);
        days(x, "move b a;");
        due("not behind one that is left out", x.judged(1), -1);
        days(x, "move b a;tyre b;hour;");
        due("behind the third", x.judged(1), 2);
        days(x, "tyre b;move b c;");
        due("no more", x.judged(1), -1);

        sentence("13", "what is taken at last");
        x = zoo(PARK);
        days(x, "hour;hour;tyre ann;tyre ann;tyre ann;tyre ann;tyre ann;tyre ann;");
        due("31 less five tyres", x.judged(2), 1);
        due("the sixth can't be", x.judged(0), 7);
    }

    // ==== The best show

    private static boolean areFoes(String foes, int one, int other) {
        String[] names = {"ann", "bob", "cid", "dot"};
        return foes.contains("foe " + names[one] + " " + names[other] + ";");
    }

    private static boolean isWay(String foes, int[] row) {
        for (int one = 0; one < 4; one++) {
            for (int other = one + 1; other < 4; other++) {
                if (row[one] == row[other] && areFoes(foes, one, other)) {
                    return false;
                }
            }
        }
        return true;
    }

    // Each of the 81 ways is made by moves, and what an hour would bring is asked of each animal and guest.
    private static void tryAllWays(String text, String foes, int hours) {
        int taken = -1;
        int pacing = 0;
        int[] best = new int[4];
        for (int way = 0; way < 81; way++) {
            int[] row = {way / 27, way / 9 % 3, way / 3 % 3, way % 3};
            if (!isWay(foes, row)) {
                continue;
            }
            BearTickets x = new BearTickets();
            feed(x, text);
            x.zoo();
            hours(x, hours);
            int paces = 0;
            for (int guest = 0; guest < 4; guest++) {
                x.move(guest, row[guest]);
            }
            for (int guest = 0; guest < 4; guest++) {
                paces += x.guest(guest, 3) == 0 ? 1 : 0;
            }
            int takes = x.animal(0, 3) + x.animal(1, 3) + x.animal(2, 3);
            if (takes > taken || takes == taken && paces < pacing) {
                taken = takes;
                pacing = paces;
                best = row;
            }
        }
        BearTickets x = zoo(text + foes);
        hours(x, hours);
        due("taken by " + text + foes, x.show(0), taken);
        due("pace by " + text + foes, x.show(1), pacing);
        for (int guest = 0; guest < 4; guest++) {
            due("row by " + text + foes, x.show(2 + guest), best[guest]);
        }
    }

    private static void showing() {
        sentence("14", "SHOW: taken, how many PACE, the PEN of the i-th GUEST; NONE: others");
        BearTickets x = zoo(PARK);
        for (int what : new int[] {LOW, -3, -2, -1, 6, 7, 8, HIGH}) {
            due("another what " + what, x.show(what), -1);
        }
        due("the last guest", x.show(5) >= 0, true);
        x = zoo("pen a seats 9;animal b likes boy coins 9;");
        due("no guests: taken", x.show(0), 0);
        due("no guests: pace", x.show(1), 0);
        due("no guests: no row", x.show(2), -1);

        sentence("14", "NONE: no way");
        x = zoo("pen a seats 1;guest b boy mood 1 in a;guest c boy mood 1 in a;foe b c;");
        for (int what = -1; what <= 4; what++) {
            due("show " + what, x.show(what), -1);
        }
        x = zoo("pen a seats 1;pen e seats 1;guest b boy mood 1 in a;guest c boy mood 1 in a;guest d boy mood 1 in a;foe b c;foe c d;foe b d;");
        due("three foes of each other, two pens", x.show(0), -1);

        sentence("14", "of all ways to have the GUESTS in PENS (no foes in one)");
        x = zoo("pen a seats 1;pen e seats 1;guest b boy mood 1 in a;guest c boy mood 1 in a;foe b c;animal d likes boy coins 99;animal f likes boy coins 99;");
        due("foes that share one now are apart", x.show(0), 12);
        due("row", x.show(2), 0);
        due("row", x.show(3), 1);
        // Full: six foes of each other, six pens. Each is worth 14 to each; all see the first pen.
        x = zoo(SIX_PENS.replaceAll("seats .", "seats 9") + SIX_GUESTS.replaceAll("[a-z]+ mood .", "boy mood 9")
            + FIVE_ANIMALS.replaceAll("likes [a-z]+ coins [0-9]+", "likes boy coins 999") + pairs("foe ", "ghijkl", ";"));
        due("taken", x.show(0), 70);
        due("pace", x.show(1), 0);
        for (int guest = 0; guest < 6; guest++) {
            due("row", x.show(2 + guest), guest);
        }
        due("no seventh", x.show(8), -1);

        // Together they are worth 10 and pace; apart they are worth 5 and do not.
        String pair = "pen a seats 1;pen e seats 1;guest b boy mood 1 in e;guest c boy mood 1 in a;sees 5;moods others=0;animal d likes boy coins ";
        sentence("14", "the one by which most is taken by an HOUR now");
        x = zoo(pair + "6;");
        due("taken", x.show(0), 6);
        due("though both pace", x.show(1), 2);
        due("row", x.show(2), 0);
        due("row", x.show(3), 0);

        sentence("14", "of equal ones by which the fewest PACE behind it");
        x = zoo(pair + "5;");
        due("taken", x.show(0), 5);
        due("nobody paces", x.show(1), 0);
        x = zoo(pair.replaceAll("seats .", "seats 0") + "5;");
        due("no seats: taken", x.show(0), 0);
        due("no seats: nobody paces", x.show(1), 0);
        due("no seats: row", x.show(2), 0);
        due("no seats: row", x.show(3), 1);
        x = zoo(pair + "0;");
        due("no coins: taken", x.show(0), 0);
        due("no coins: nobody paces", x.show(1), 0);
        due("no coins: row", x.show(3), 1);

        sentence("14", "then the first row (of GUESTS, by numbers)");
        x = zoo(pair + "5;");
        due("row", x.show(2), 0);
        due("row", x.show(3), 1);
        x = zoo("pen a seats 0;pen e seats 1;guest b boy mood 1 in e;guest c boy mood 1 in e;sees 5;moods 1;animal d likes boy coins 5;");
        due("only the second has to be seen", x.show(2), 0);
        due("only the second has to be seen", x.show(3), 1);
        due("where they are is not asked", x.move(0, 0), true);
        due("row", x.show(2), 0);

        sentence("14", "an HOUR now: by the coins left, the moods and the hour of now");
        x = zoo("pen a seats 1;guest b boy mood 1 in a;animal c likes boy coins 9;moods fed;feeds 0;");
        due("taken", x.show(0), 6);
        due("fed", x.show(1), 0);
        x.hour();
        due("3 coins left", x.show(0), 3);
        due("not fed", x.show(1), 1);
        x.mark(0, false);
        x.hour();
        due("none left", x.show(0), 0);
        x.undo();
        due("undone", x.show(0), 3);
        x.hour();
        due("none left", x.show(0), 0);
        x.mark(0, true);
        due("gone back to", x.show(0), 3);
        feed(x, "pen a seats 1;guest b boy mood 1 in a;animal c likes boy coins 5;tyre 9 costs 0;sees humour;");
        x.zoo();
        due("another zoo", x.show(0), 1);
        x.tyre(0);
        due("by a tyre", x.show(0), 5);

        sentence("14", "of all ways ... the one by which most is taken, the fewest PACE, the first row: each way tried by hand");
        String[] foesOf = {"", "foe ann cid;", "foe ann cid;foe bob dot;foe ann dot;"};
        String[] laws = {"", "sees liked*4+humour-others*2;moods humour-2+watched;", "sees humour*others;moods watched+others-1;",
            "sees (2-others)*liked*6;moods (others=1)+watched*2;"};
        for (String foes : foesOf) {
            for (String law : laws) {
                String text = PARK.replace("foe ann cid;", "").replace("ash seats 0", "ash seats 1") + law;
                for (int hours = 0; hours < 3; hours++) {
                    tryAllWays(text, foes, hours);
                    tryAllWays(text.replace("likes boy", "likes plain"), foes, hours);
                }
            }
        }
    }

    // ==== One more animal

    private static void telling() {
        sentence("15", "TOLD: true; false: others, a PEN without seats");
        BearTickets x = zoo(PARK);
        int[] ahead = sight(x);
        for (int pen : new int[] {LOW, -3, -2, 3, 4, 5, 6, 7, HIGH}) {
            due("another pen " + pen, x.tell(pen), false);
        }
        due("no seats", x.tell(2), false);
        dueSame("refused", sight(x), ahead);
        due("one seat", x.tell(1), true);
        due("NONE", x.tell(-1), true);
        due("two are told", x.count(10), 2);
        due("nothing to undo", x.count(11), 0);

        sentence("15", "8 at most; false: 8 are TOLD");
        x = zoo("pen a seats 1;guest b boy mood 0 in a;");
        for (int i = 1; i <= 8; i++) {
            due("tell", x.tell(0), true);
            due("told", x.count(10), i);
            due("those that like boys", x.sets(0), 8);
        }
        due("a ninth", x.tell(0), false);
        due("a ninth, none", x.tell(-1), false);
        due("told", x.count(10), 8);
        due("it is not counted", x.sets(0), 8);

        sentence("15", "would choose a PEN with seats (no other ANIMAL takes a seat), or none");
        x = zoo("pen a seats 1;pen c seats 0;guest b boy mood 1 in a;guest d poet mood 9 in c;animal e likes boy coins 9;");
        due("tell", x.tell(0), true);
        due("the one seat is there for it, c has none", x.sets(0), 16);
        due("tell", x.tell(-1), true);
        due("it would have come by any set", x.sets(0), 0);
        x = zoo("pen a seats 0;guest b boy mood 9 in a;");
        due("tell", x.tell(-1), true);
        due("no pen has seats", x.sets(0), 16);

        sentence("15", "all being as it is when it is TOLD (moods, who is where)");
        x = zoo("pen a seats 1;pen c seats 1;guest b boy mood 0 in a;guest d poet mood 0 in c;moods 9;");
        x.tell(0);
        due("it likes boys", x.sets(1), 4);
        x.hour();
        x.move(0, 1);
        due("what is told stays as it was", x.sets(1), 4);
        due("how many", x.sets(0), 8);

        sentence("16", "any set of these, also none");
        x = zoo(PARK);
        due("all sets", x.sets(0), 16);
        due("the least of the smallest is none", x.sets(3), 0);
        x = zoo("pen a seats 1;guest b boy mood 0 in a;guest c poet mood 0 in a;guest d plain mood 0 in a;guest e single mood 0 in a;");
        x.tell(-1);
        due("it likes none", x.sets(0), 1);
        due("in all", x.sets(1), 0);
        due("in some", x.sets(2), 0);
        due("smallest", x.sets(3), 0);
        // Oak is worth 3 for each kind that it likes, elm for boys and poets alone: elm is never above oak.
        x = zoo("pen oak seats 1;pen elm seats 1;guest b boy mood 0 in oak;guest c poet mood 0 in oak;guest d plain mood 0 in oak;"
            + "guest e single mood 0 in oak;guest f boy mood 0 in elm;guest g poet mood 0 in elm;sees liked*3;");
        x.tell(1);
        due("by no set", x.sets(0), 0);

        sentence("16", "those in all, in some (bits); the least of the smallest");
        x = zoo("pen a seats 1;guest b poet mood 0 in a;guest c boy mood 0 in a;");
        x.tell(0);
        due("poet or boy", x.sets(0), 12);
        due("in all", x.sets(1), 0);
        due("in some", x.sets(2), 15);
        due("poet, which is less than boy", x.sets(3), 2);
        x = zoo("pen a seats 1;guest b single mood 0 in a;");
        x.tell(0);
        due("in all", x.sets(1), 8);
        due("in some", x.sets(2), 15);
        due("smallest, though 8 is more than others", x.sets(3), 8);
        x = zoo("pen a seats 1;guest b plain mood 0 in a;");
        x.tell(0);
        due("in all", x.sets(1), 1);
        due("in some", x.sets(2), 15);
        due("smallest", x.sets(3), 1);
        // All four kinds are 12, three are 9, as much as elm, which is the first.
        x = zoo("pen elm seats 1;pen oak seats 1;guest b plain mood 0 in oak;guest c poet mood 0 in oak;guest d boy mood 0 in oak;"
            + "guest e single mood 0 in oak;guest f boy mood 9 in elm;sees liked*3*(humour=0)+humour;");
        x.tell(1);
        due("it likes all", x.sets(0), 1);
        due("in all", x.sets(1), 15);
        due("in some", x.sets(2), 15);
        due("smallest", x.sets(3), 15);
        // Elm is 4, and 3 more for plain; oak, behind it, 3 for poets and 3 for boys: above elm by both, without plain.
        x = zoo("pen elm seats 1;pen oak seats 1;guest b plain mood 4 in elm;guest c poet mood 0 in oak;guest d boy mood 0 in oak;"
            + "sees liked*3+humour;");
        x.tell(1);
        due("with single and without", x.sets(0), 2);
        due("in all", x.sets(1), 6);
        due("in some", x.sets(2), 14);
        due("smallest", x.sets(3), 6);

        sentence("16", "NONE: others, no set (but 0)");
        for (int what : new int[] {LOW, -2, -1, 4, 5, HIGH}) {
            due("another what " + what, x.sets(what), -1);
        }
        x = zoo("pen a seats 1;guest b boy mood 1 in a;");
        x.tell(-1);
        due("no set", x.sets(0), 0);
        for (int what : new int[] {LOW, -1, 1, 2, 3, 4, HIGH}) {
            due("no set, what " + what, x.sets(what), -1);
        }

        sentence("17", "NEXT: the greater number of SETS is the least, if that is less than all");
        x = zoo("pen a seats 1;guest b boy mood 0 in a;");
        due("8 and 8", x.next(), 0);
        x.tell(0);
        due("8 and 0", x.next(), -1);
        x.tell(-1);
        due("no set", x.next(), -1);
        due("no guests", zoo("pen a seats 1;").next(), -1);
        x = zoo("pen a seats 1;guest b boy mood 1 in a;");
        due("it comes by all", x.next(), -1);
        x = zoo("pen a seats 1;guest b boy mood 9 in a;sees 0;");
        due("it comes by none", x.next(), -1);

        sentence("17", "of equal ones the first");
        x = zoo("pen a seats 1;guest b plain mood 1 in a;guest c single mood 0 in a;guest d poet mood 0 in a;");
        due("c and d part them in halves", x.next(), 1);
        // Of 12 sets (poet or boy) a poet parts 8 and 4, a boy as well, a single 6 and 6.
        x = zoo("pen a seats 1;pen e seats 0;guest b poet mood 0 in a;guest c boy mood 0 in a;guest d single mood 0 in e;");
        x.tell(0);
        due("sets", x.sets(0), 12);
        due("the single", x.next(), 2);

        sentence("17", "were he alone there (others 0, his mood now)");
        x = zoo("pen a seats 1;guest b boy mood 1 in a;guest c boy mood 9 in a;moods 0;");
        due("with the other he is worth 0, alone 1", x.next(), -1);
        x.hour();
        due("by his mood now", x.next(), 0);
    }

    // ==== Fewest pens, fewest tyres

    private static void keepingApart() {
        sentence("18", "APART: guest NONE: how many; else his; -2: others");
        BearTickets x = zoo(PARK);
        due("how many", x.apart(-1), 2);
        int[] row = {0, 0, 1, 0};
        for (int guest = 0; guest < 4; guest++) {
            due("his", x.apart(guest), row[guest]);
        }
        for (int guest : new int[] {LOW, -3, -2, 4, 5, 6, 7, HIGH}) {
            due("another guest " + guest, x.apart(guest), -2);
        }
        due("nobody", new BearTickets().apart(-1), 0);
        due("nobody", zoo("pen a seats 1;").apart(-1), 0);
        due("one", zoo("pen a seats 0;guest b boy mood 1 in a;").apart(-1), 1);

        sentence("18", "the fewest PENS (any number, seats aside)");
        x = zoo("pen a seats 0;" + SIX_GUESTS.replaceAll("in .;", "in a;") + pairs("foe ", "ghijkl", ";"));
        due("more than there are", x.apart(-1), 6);
        for (int guest = 0; guest < 6; guest++) {
            due("his", x.apart(guest), guest);
        }
        x = zoo("pen a seats 0;" + SIX_GUESTS.replaceAll("in .;", "in a;"));
        due("no foes", x.apart(-1), 1);
        due("the last", x.apart(5), 0);

        sentence("18", "numbered as they first come, of equal ones the first row");
        // g and l are foes; the first row has all others with g.
        x = zoo("pen a seats 0;" + SIX_GUESTS.replaceAll("in .;", "in a;") + "foe g l;");
        int[] last = {0, 0, 0, 0, 0, 1};
        for (int guest = 0; guest < 6; guest++) {
            due("his", x.apart(guest), last[guest]);
        }
        // g - j, h - j, h - k: two are enough; i, who has no foe, comes to the first.
        x = zoo("pen a seats 0;" + SIX_GUESTS.replaceAll("in .;", "in a;") + "foe g j;foe j h;foe h k;foe k l;foe i l;");
        int[] two = {0, 0, 1, 1, 1, 0};
        due("how many", x.apart(-1), 2);
        for (int guest = 0; guest < 6; guest++) {
            due("his", x.apart(guest), two[guest]);
        }
    }

    private static void fewestTyres() {
        String six = SIX_PENS.replaceAll("seats .", "seats 0") + SIX_GUESTS.replaceAll("mood .", "mood 1");
        sentence("19", "TYRES: the fewest GUESTS to be given a TYRE now so that none PACES behind an HOUR now");
        due("nobody", new BearTickets().tyres(), 0);
        due("all six", zoo(six).tyres(), 63);
        due("none", zoo(six.replaceAll("mood .", "mood 2")).tyres(), 0);
        due("the last", zoo(six.replaceAll("mood .", "mood 2").replace("l poet mood 2", "l poet mood 1")).tyres(), 32);
        due("who paces now, but not then", zoo("pen a seats 0;guest b boy mood 0 in a;moods 1;").tyres(), 0);

        sentence("19", "NONE: all are not enough");
        due("all are not enough", zoo("pen a seats 0;guest b boy mood 9 in a;moods 0;").tyres(), -1);
        due("one is not helped", zoo("pen a seats 0;guest b boy mood 1 in a;guest c boy mood 0 in a;tyre 1 costs 1;").tyres(), -1);

        sentence("19", "(as if there were enough for it)");
        BearTickets x = zoo("pen a seats 0;guest b boy mood 1 in a;tyre 1 costs 99;");
        due("nothing is taken", x.tyres(), 1);
        due("nothing is given", x.guest(0, 1), 1);
        due("nothing is paid", x.count(6), 0);

        sentence("19, 10", "TYRE: 9 at most, in these as well");
        due("8 and 3 are 9", zoo("pen a seats 0;guest b boy mood 8 in a;moods humour=9;").tyres(), 1);

        sentence("19", "of equal ones the least set");
        // One animal comes if either has one.
        x = zoo("pen a seats 1;guest b boy mood 0 in a;guest c boy mood 0 in a;animal d likes boy coins 9;sees humour;moods watched;");
        due("the first of two", x.tyres(), 1);
        // The poet and one of the boys: 3 is less than 6.
        x = zoo("pen a seats 2;guest b boy mood 0 in a;guest c poet mood 0 in a;guest e boy mood 0 in a;"
            + "animal d likes boy coins 9;animal f likes poet coins 9;sees liked*humour;moods watched=2;");
        due("two of three", x.tyres(), 3);
    }

    // ==== Walks and houses

    private static void walking() {
        sentence("20", "WALK: minutes, the i-th PEN of the order; NONE: others");
        BearTickets x = zoo(PARK);
        int[][] want = {{10, 0, 1, 2, -1}, {14, 0, 1, 2, -1}, {10, 2, 1, 0, -1}};
        for (int pen = 0; pen < 3; pen++) {
            for (int what = 0; what < 5; what++) {
                due("walk " + pen + " " + what, x.walk(pen, what), want[pen][what]);
            }
            for (int what : new int[] {LOW, -2, -1, 6, 7, 8, HIGH}) {
                due("another what " + what, x.walk(pen, what), -1);
            }
        }
        for (int pen : new int[] {LOW, -2, -1, 3, 4, 5, 6, 7, HIGH}) {
            due("another pen " + pen, x.walk(pen, 0), -1);
            due("another pen " + pen, x.walk(pen, 1), -1);
        }

        sentence("20", "NONE: one can't be come to");
        x = zoo("pen a seats 0;pen b seats 0;pen c seats 0;path a b 1;guest d boy mood 1 in b;guest e boy mood 1 in c;");
        for (int what = 0; what <= 3; what++) {
            due("c is cut off", x.walk(0, what), -1);
            due("b is, from c", x.walk(2, what), -1);
        }
        x.move(1, 1);
        due("nobody is there any more", x.walk(0, 0), 1);
        due("one pen", x.walk(0, 1), 1);
        due("no second", x.walk(0, 2), -1);
        due("c has no way to b", x.walk(2, 0), -1);

        sentence("20", "past all PENS in which there are GUESTS (none, the one it is in, all six)");
        x = zoo("pen a seats 0;");
        due("none", x.walk(0, 0), 0);
        due("no order", x.walk(0, 1), -1);
        x = zoo("pen a seats 0;guest b boy mood 1 in a;");
        due("the one it is in", x.walk(0, 0), 0);
        due("the one it is in", x.walk(0, 1), 0);
        due("no more", x.walk(0, 2), -1);
        x = zoo(SIX_PENS + SIX_GUESTS + pairs("path ", "abcdef", " 30;"));
        due("all six", x.walk(0, 0), 150);
        int[] order = {5, 0, 1, 2, 3, 4};
        due("all six from the last", x.walk(5, 0), 150);
        for (int i = 0; i < 6; i++) {
            due("order", x.walk(0, 1 + i), i);
            due("order", x.walk(5, 1 + i), order[i]);
        }
        due("no seventh", x.walk(5, 7), -1);

        sentence("20", "the fewest minutes (paths any number of times, not back)");
        // A row of six, each 30 from the next; from the third to one end and on to the other.
        x = zoo(SIX_PENS + SIX_GUESTS + "path a b 30;path b c 30;path c d 30;path d e 30;path e f 30;");
        due("from the end", x.walk(0, 0), 150);
        due("from the third", x.walk(2, 0), 60 + 150);
        due("from the fourth", x.walk(3, 0), 60 + 150);
        // A star round f: each leg but the first goes there and on.
        x = zoo(SIX_PENS + SIX_GUESTS + "path a f 30;path b f 30;path c f 30;path d f 30;path e f 30;");
        due("from the middle", x.walk(5, 0), 9 * 30);
        due("from an end", x.walk(0, 0), 8 * 30);
        x = zoo("pen a seats 0;pen b seats 0;pen c seats 0;guest d boy mood 1 in c;path a b 3;path b c 4;path a c 8;");
        due("a shorter way round", x.walk(0, 0), 7);
        due("b is not of the order", x.walk(0, 1), 2);
        x = zoo("pen a seats 0;pen b seats 0;pen c seats 0;guest d boy mood 1 in c;path a b 3;path a c 4;");
        due("by the first pen", x.walk(1, 0), 7);
        x = zoo("pen b seats 0;pen c seats 0;pen a seats 0;guest d boy mood 1 in c;path a b 3;path a c 4;");
        due("by the last pen", x.walk(0, 0), 7);

        sentence("20", "the first order of these (by PENS) that takes no more");
        x = zoo("pen a seats 0;pen b seats 0;pen c seats 0;guest d boy mood 1 in c;guest e boy mood 1 in b;path a b 3;path b c 4;path a c 3;");
        due("3 and 4 either way", x.walk(0, 0), 7);
        due("the first", x.walk(0, 1), 1);
        due("the other", x.walk(0, 2), 2);
        x = zoo("pen a seats 0;pen b seats 0;pen c seats 0;guest d boy mood 1 in c;guest e boy mood 1 in b;path a b 4;path b c 4;path a c 3;");
        due("3 and 4", x.walk(0, 0), 7);
        due("the nearer one", x.walk(0, 1), 2);
    }

    private static void resting() {
        BearTickets x = new BearTickets();
        sentence("21", "SEATS by ANIMALS (0 to 20), cost (0 to 9); NoSuchElementException: others");
        for (int animals : new int[] {LOW, -2, -1, 21, 22, HIGH}) {
            due("animals " + animals, rests(x, animals, 0, -1), NO_SUCH);
            due("animals " + animals, rests(x, animals, 0, 0), NO_SUCH);
        }
        for (int cost : new int[] {LOW, -2, -1, 10, 11, HIGH}) {
            due("cost " + cost, rests(x, 4, cost, -1), NO_SUCH);
            due("cost " + cost, rests(x, 4, cost, 0), NO_SUCH);
        }
        due("no animals", rests(x, 0, 0, -1), 36);
        due("no animals, cost 9", rests(x, 0, 9, -1), 36);
        due("20 animals", rests(x, 20, 0, -1), 2);
        due("20 animals, cost 9: nobody can ask for more", rests(x, 20, 9, -1), 1);
        due("20 animals, cost 9", rests(x, 20, 9, 0), 66);

        sentence("21", "what NONE: how many; i: the i-th; NoSuchElementException: none such");
        due("how many", rests(x, 4, 0, -1), 2);
        due("the first", rests(x, 4, 0, 0), 11);
        due("the last", rests(x, 4, 0, 1), 22);
        for (int what : new int[] {LOW, -3, -2, 2, 3, 35, 36, HIGH}) {
            due("none such " + what, rests(x, 4, 0, what), NO_SUCH);
        }

        sentence("21", "10 * the first price + the other one (the least first); each asks 1 to 6");
        for (int i = 0; i < 36; i++) {
            due("all rest without animals", rests(x, 0, 5, i), 10 * (1 + i / 6) + 1 + i % 6);
        }
        due("no 37th", rests(x, 0, 5, 36), NO_SUCH);

        sentence("21", "of equal ones half, cut, to each (the rest stays away)");
        // Of one animal nobody gets it at equal prices: 11, and 12 and 21, where the cheaper one has it.
        int[] one = {11, 12, 21};
        due("one animal", rests(x, 1, 0, -1), 3);
        for (int i = 0; i < 3; i++) {
            due("one animal", rests(x, 1, 0, i), one[i]);
        }
        // At 2 each of three has 1, which is 2; all three at 1 are 3.
        due("three animals", rests(x, 3, 0, -1), 1);
        due("three animals", rests(x, 3, 0, 0), 11);
        due("two animals: 2 is no less than 2 at 1", rests(x, 2, 0, -1), 2);

        sentence("21", "by which neither would get more by another price");
        // Of one animal at a loss: equal prices, where nobody has it.
        due("cost 9", rests(x, 1, 9, -1), 6);
        for (int i = 0; i < 6; i++) {
            due("cost 9", rests(x, 1, 9, i), 11 * (i + 1));
        }
        due("nothing is changed", x.count(5) + x.count(6), 0);
    }

    // ==== Rain and years

    private static void raining() {
        sentence("22", "RAIN of a GUEST (NONE: any), so many HOURS (1 to 6); -2: others");
        BearTickets x = zoo(PARK);
        int[] ahead = sight(x);
        for (int hours : new int[] {LOW, -1, 0, 7, 8, HIGH}) {
            due("hours " + hours, x.rain(0, hours), -2);
            due("any, hours " + hours, x.rain(-1, hours), -2);
        }
        for (int guest : new int[] {LOW, -3, -2, 4, 5, 6, 7, 31, 32, HIGH}) {
            due("another guest " + guest, x.rain(guest, 1), -2);
        }
        due("1 hour", x.rain(2, 1), 200000);
        due("6 hours", x.rain(3, 6), 1000000);
        due("any", x.rain(-1, 1), 200000);
        dueSame("nothing is changed", sight(x), ahead);
        due("nobody there", new BearTickets().rain(-1, 6), 0);

        sentence("22", "the chance that one PACES behind one of them, in millionths");
        // He loses one by each rain and none else: six rains are one in a million.
        String drop = "pen a seats 1;guest b boy mood 6 in a;animal c likes boy coins 0;moods humour-(watched=0);rain ";
        x = zoo(drop + "1;");
        due("five hours", x.rain(0, 5), 0);
        due("six rains", x.rain(0, 6), 1);
        due("six rains by nine of ten", zoo(drop + "9;").rain(0, 6), 531441);
        due("always", zoo(drop + "10;").rain(0, 6), 1000000);
        due("always, five hours", zoo(drop + "10;").rain(0, 5), 0);
        due("never", zoo(drop + "0;").rain(0, 6), 0);
        x = zoo("pen a seats 1;guest b boy mood 1 in a;animal c likes boy coins 0;moods watched;rain 1;");
        int[] some = {100000, 190000, 271000, 343900, 409510, 468559};
        for (int i = 0; i < 6; i++) {
            due("one rain in " + (i + 1), x.rain(0, i + 1), some[i]);
        }

        sentence("22", "PACES behind one of them (now does not count; once is enough)");
        due("he paces now alone", zoo("pen a seats 0;guest b boy mood 0 in a;moods 1;rain 5;").rain(0, 6), 0);
        due("behind each", zoo("pen a seats 0;guest b boy mood 9 in a;moods 0;rain 5;").rain(0, 6), 1000000);
        due("behind the first, not at last", zoo("pen a seats 0;guest b boy mood 9 in a;moods humour=0;rain 5;").rain(0, 2), 1000000);

        sentence("22", "in each of which it rains by the odds (no ANIMAL comes then)");
        // Either of two, of whom one is never watched.
        x = zoo("pen a seats 1;pen d seats 0;guest b boy mood 1 in a;guest e boy mood 1 in d;animal c likes boy coins 0;moods watched;rain 3;");
        due("b", x.rain(0, 1), 300000);
        due("e", x.rain(1, 1), 1000000);
        due("any", x.rain(-1, 1), 1000000);
        x = zoo(SIX_PENS + SIX_GUESTS + "moods 0<humour;rain 5;");
        due("the first alone", x.rain(-1, 1), 1000000);
        x = zoo(SIX_PENS + SIX_GUESTS.replaceAll("mood 9", "mood 0").replaceAll("g plain mood 0", "g plain mood 1") + "moods 0<humour;rain 5;");
        due("the last alone", x.rain(-1, 1), 1000000);
        x = zoo(SIX_PENS + SIX_GUESTS + "moods 1;rain 5;");
        due("nobody", x.rain(-1, 6), 0);

        sentence("23", "FIRST; NONE: others, no GUESTS");
        x = zoo(PARK);
        ahead = sight(x);
        for (int hours : new int[] {LOW, -1, 0, 7, 8, HIGH}) {
            due("hours " + hours, x.first(hours), -1);
        }
        due("one hour", x.first(1), 2);
        due("two hours", x.first(2), 3);
        due("six hours", x.first(6) >= 0, true);
        dueSame("nothing is changed", sight(x), ahead);
        due("no guests", zoo("pen a seats 1;rain 5;").first(1), -1);
        due("no guests", new BearTickets().first(6), -1);

        sentence("23", "of equal ones the first");
        due("nobody paces", zoo("pen a seats 0;guest b boy mood 9 in a;guest c boy mood 9 in a;").first(1), 0);
        due("all pace", zoo("pen a seats 0;guest b boy mood 9 in a;guest c boy mood 9 in a;moods 0;").first(6), 0);
        due("the second is helped", zoo("pen a seats 0;guest b boy mood 9 in a;guest c boy mood 2 in a;").first(1), 1);

        sentence("23", "whom to give a TYRE now (as if there were enough; 9 at most)");
        x = zoo("pen a seats 0;pen d seats 0;guest b boy mood 8 in a;guest c boy mood 9 in d;tyre 9 costs 99;moods humour=9;");
        due("8 becomes 9", x.first(1), 0);
        due("nothing is paid", x.count(6), 0);
        due("nothing is given", x.guest(0, 1), 8);
    }

    // The third draws of each hour by which an animal comes, by numbers of any size.
    private static int dryHours(int seed, int hours, int rain) {
        java.math.BigInteger g = java.math.BigInteger.valueOf(seed);
        int dry = 0;
        for (int i = 1; i <= 3 * hours; i++) {
            g = g.multiply(java.math.BigInteger.valueOf(1103515245)).add(java.math.BigInteger.valueOf(12345))
                .mod(java.math.BigInteger.valueOf(2147483648L));
            if (i % 3 == 0 && g.shiftRight(16).intValueExact() % 10 >= rain) {
                dry++;
            }
        }
        return dry;
    }

    private static void livingOn() {
        sentence("24", "YEARS by a SEED (0 to 9999) of so many hours (1 to 100), what 0 to 2; NONE: others");
        BearTickets x = zoo(PARK);
        int[] ahead = sight(x);
        for (int seed : new int[] {LOW, -2, -1, 10000, 10001, HIGH}) {
            due("seed " + seed, x.years(seed, 1, 0), -1);
        }
        for (int hours : new int[] {LOW, -1, 0, 101, 102, HIGH}) {
            due("hours " + hours, x.years(0, hours, 0), -1);
        }
        for (int what : new int[] {LOW, -2, -1, 3, 4, HIGH}) {
            due("another what " + what, x.years(0, 1, what), -1);
        }
        dueSame("refused", sight(x), ahead);
        for (int what = 0; what < 3; what++) {
            due("least", x.years(0, 1, what) >= 0, true);
            due("most", x.years(9999, 100, what) >= 0, true);
        }

        sentence("24", "from now on (all is as ahead then)");
        dueSame("lived on", sight(x), ahead);

        sentence("24", "A DRAW: modulo 2147483648; g / 65536, cut; below rain no ANIMAL comes");
        String dry = "pen a seats 1;guest b boy mood 1 in a;animal c likes boy coins 999;sees 1;moods watched;rain ";
        for (int rain : new int[] {0, 1, 5, 9, 10}) {
            x = zoo(dry + rain + ";");
            for (int seed : new int[] {0, 1, 2, 4999, 9998, 9999}) {
                for (int hours : new int[] {1, 2, 99, 100}) {
                    int want = dryHours(seed, hours, rain);
                    due("taken by " + seed + " in " + hours, x.years(seed, hours, 0), want);
                    due("paces by " + seed + " in " + hours, x.years(seed, hours, 1), hours - want);
                }
            }
        }

        sentence("24", "if there are GUESTS and PENS, a DRAW below them each: that MOVE, if it can be");
        // From 1: 16838 5758 10113, 17515 31051 5627, 23010 7419 16212. He goes to a, to d, to d (where he is).
        String moved = "pen a seats 1;pen d seats 0;guest b boy mood 1 in d;animal c likes boy coins 999;sees 7;moods watched+1;rain ";
        due("10113 modulo 10 is not below 3", zoo(moved + "3;").years(1, 1, 0), 7);
        due("but below 4", zoo(moved + "4;").years(1, 1, 0), 0);
        due("seen once", zoo(moved + "3;").years(1, 3, 0), 7);
        due("moods", zoo(moved + "3;").years(1, 1, 2), 2);
        due("moods", zoo(moved + "3;").years(1, 2, 2), 1);
        // 16838 modulo 2 is 0, 5758 modulo 2 is 0: b would go to a, where his foe e is.
        String foes = "pen a seats 1;pen d seats 1;guest b boy mood 1 in d;guest e boy mood 1 in a;animal c likes boy coins 999;sees 7;moods 1;";
        due("together", zoo(foes).years(1, 1, 0), 14);
        due("foes", zoo(foes + "foe b e;").years(1, 1, 0), 7);

        sentence("24", "how often somebody PACES, GUEST by GUEST, behind each; moods of all together at last");
        x = zoo("pen a seats 0;" + SIX_GUESTS.replaceAll("in .;", "in a;") + "moods 0;");
        due("one hour", x.years(7, 1, 1), 6);
        due("a hundred", x.years(7, 100, 1), 600);
        due("moods", x.years(7, 100, 2), 0);
        x = zoo("pen a seats 0;" + SIX_GUESTS.replaceAll("in .;", "in a;") + "moods 9;");
        due("nobody", x.years(7, 100, 1), 0);
        due("moods", x.years(7, 100, 2), 54);

        sentence("24", "what is taken by these (not what was taken ahead)");
        x = zoo("pen a seats 1;guest b boy mood 1 in a;animal c likes boy coins 10;");
        due("hour", x.hour(), 6);
        due("the four that are left", x.years(0, 1, 0), 4);
        due("no more", x.years(0, 100, 0), 4);
        due("nobody there", new BearTickets().years(9999, 100, 2), 0);
    }

    // ==== Marks and counts

    private static void marking() {
        sentence("25", "MARKS 0 to 3; false: none such, nothing is on it (back)");
        BearTickets x = zoo(PARK);
        x.hour();
        int[] ahead = sight(x);
        for (int mark : new int[] {LOW, -2, -1, 4, 5, HIGH}) {
            due("none such " + mark, x.mark(mark, false), false);
            due("none such " + mark, x.mark(mark, true), false);
        }
        for (int mark = 0; mark < 4; mark++) {
            due("nothing is on it", x.mark(mark, true), false);
        }
        dueSame("refused", sight(x), ahead);
        for (int mark = 0; mark < 4; mark++) {
            due("laid", x.mark(mark, false), true);
            due("the next one is free still", x.mark(mark + 1, true), false);
            x.hour();
        }
        for (int mark = 3; mark >= 0; mark--) {
            due("gone back to", x.mark(mark, true), true);
            due("the hour", x.count(5), 1 + mark);
        }
        due("again", x.mark(3, true), true);
        due("the hour", x.count(5), 4);
        x.hour();
        due("laid anew", x.mark(0, false), true);
        x.hour();
        due("gone back to", x.mark(0, true), true);
        due("the hour", x.count(5), 5);

        sentence("25", "hold the hour, GUESTS, moods, coins, what is taken, the DAYS, what is TOLD");
        x = zoo(PARK);
        days(x, "hour;hour;");
        x.hour();
        x.move(1, 1);
        x.tyre(3);
        x.tell(0);
        x.mark(3, false);
        int[] held = sight(x);
        days(x, times(40, "hour;"));
        x.hour();
        x.move(1, 2);
        x.tyre(2);
        x.tell(-1);
        due("gone back to", x.mark(3, true), true);
        due("undo was 3", held[11], 3);
        held[11] = 0;
        dueSame("as it was laid but for undo", sight(x), held);

        sentence("25, 12", "(nothing can be undone when one is gone back to)");
        due("count 11", x.count(11), 0);
        due("undo", x.undo(), false);
        x.hour();
        due("what comes then can be", x.count(11), 1);
        due("laying leaves it", x.mark(2, false), true);
        due("count 11", x.count(11), 1);
        due("undo", x.undo(), true);
        due("no more", x.undo(), false);

        sentence("25", "MARKS hold nothing else: the TAPE stays");
        feed(x, "abc");
        x.mark(2, true);
        due("signs", x.count(12), 3);
    }

    private static void counting() {
        sentence("26", "What 0 to 12; NONE for another what");
        BearTickets x = zoo(PARK);
        for (int what : new int[] {LOW, -3, -2, -1, 13, 14, 16, HIGH}) {
            due("another what " + what, x.count(what), -1);
        }
        hours(x, 2);
        x.tell(1);
        days(x, "hour;hour;hour;");
        feed(x, "abcde");
        int[] want = {3, 4, 3, 2, 1, 2, 31, 8, 97, 3, 1, 2, 5};
        for (int what = 0; what < want.length; what++) {
            due("count " + what, x.count(what), want[what]);
        }

        sentence("26", "full: 6 PENS, 6 GUESTS, 5 ANIMALS, 15 paths, 15 foes, coins of all");
        x = zoo(SIX_PENS + SIX_GUESTS + FIVE_ANIMALS.replaceAll("coins [0-9]+", "coins 999") + pairs("path ", "abcdef", " 1;") + pairs("foe ", "ghijkl", ";"));
        int[] full = {6, 6, 5, 15, 15, 0, 0, 1, 4995, 0, 0, 0, 0};
        for (int what = 0; what < full.length; what++) {
            due("count " + what, x.count(what), full[what]);
        }
    }

    public static void main(String[] args) {
        newObject();
        tape();
        tokens();
        pensAndPaths();
        guestsAndAnimals();
        linesThatStandOnce();
        linesOfDays();
        names();
        lawTexts();
        lawValues();
        faults();
        afterZoos();
        pensSeen();
        hoursPass();
        moves();
        tyresGiven();
        undoing();
        judging();
        showing();
        telling();
        keepingApart();
        fewestTyres();
        walking();
        resting();
        raining();
        livingOn();
        marking();
        counting();
        endSentence();
        for (int promise = 1; promise <= 26; promise++) {
            if (!named[promise]) {
                wrong++;
                System.out.println("promise " + promise + " has no test here");
            }
        }
        System.out.println(sentences + " sentences, " + checks + " checks, "
            + (wrong == 0 ? "all answers are as due" : wrong + " answers are not as due"));
        if (wrong != 0) {
            System.exit(1);
        }
    }
}
