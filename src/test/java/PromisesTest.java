import java.util.NoSuchElementException;

/** Each promise of the document: ordinary calls, the edges it names, wrong inputs; all answers worked out by hand. */
public final class PromisesTest {
    private static int wrong = 0;
    private static int checks = 0;
    private static String promise = "";

    private static final int NO_SUCH = -99;

    private static void due(String call, long got, long want) {
        checks++;
        if (got != want) {
            wrong++;
            System.out.println(promise + ": " + call + " answered " + got + ", due is " + want);
        }
    }

    private static void due(String call, boolean got, boolean want) {
        due(call, got ? 1 : 0, want ? 1 : 0);
    }

    private static long eight(String text, int from) {
        long value = 0;
        for (int i = from; i < from + 8; i++) {
            value = value << 8 | (i < text.length() ? text.charAt(i) : 0);
        }
        return value;
    }

    private static int feed(BearTickets x, String text) {
        int size = x.count(12);
        for (int i = 0; i < text.length(); i += 24) {
            size = x.feed(eight(text, i), eight(text, i + 8), eight(text, i + 16));
        }
        return size;
    }

    private static BearTickets zoo(String text) {
        BearTickets x = new BearTickets();
        feed(x, text);
        due("zoo " + text, x.zoo(), 0);
        return x;
    }

    private static void days(BearTickets x, String text) {
        feed(x, text);
        due("days " + text, x.days(), 0);
    }

    private static void zooFault(String text, int kind, int place) {
        BearTickets x = new BearTickets();
        feed(x, text);
        due("zoo " + text, x.zoo(), kind == 0 ? 0 : kind + 16 * place);
    }

    // The fault is at the first place of the last "@" in the text, which is taken out.
    private static void zooFault(String text, int kind) {
        int place = text.indexOf('@');
        zooFault(text.substring(0, place) + text.substring(place + 1), kind, place);
    }

    private static void daysFault(BearTickets x, String text, int kind) {
        int place = text.indexOf('@');
        feed(x, text.substring(0, place) + text.substring(place + 1));
        due("days " + text, x.days(), kind + 16 * place);
    }

    private static int rests(BearTickets x, int animals, int cost, int what) {
        try {
            return x.rests(animals, cost, what);
        } catch (NoSuchElementException e) {
            return NO_SUCH;
        }
    }

    // Three pens in a row, four guests, three animals: what the document's laws make of it is worked out below.
    private static final String PARK = "pen oak seats 2;pen elm seats 1;pen ash seats 0;path oak elm 4;path elm ash 6;"
        + "guest ann plain mood 3 in oak;guest bob poet mood 5 in oak;guest cid single mood 1 in elm;guest dot boy mood 2 in ash;"
        + "animal bear likes poet coins 20;animal lynx likes single coins 9;animal stork likes boy coins 99;"
        + "foe ann cid;feeds 3;tyre 4 costs 6;rain 2;";

    private static void newObject() {
        promise = "1 new object";
        BearTickets x = new BearTickets();
        for (int what = 0; what <= 12; what++) {
            due("count " + what, x.count(what), 0);
        }
        due("NONE", BearTickets.NONE, -1);
        due("undo", x.undo(), false);
        due("mark back", x.mark(0, true), false);
        due("judged 0", x.judged(0), -1);
        due("judged 1", x.judged(1), -1);
        due("judged 2", x.judged(2), 0);
        due("hour", x.hour(), 0);
        due("count 5", x.count(5), 1);
        due("tyre", x.tyre(0), -1);
        due("move", x.move(0, 0), false);
    }

    private static void feeding() {
        promise = "2 feed";
        BearTickets x = new BearTickets();
        due("signs that count", x.feed(0x090A0B1F207E7F80L, 0xFF00000000000000L, 0L), 3);
        due("more behind", x.feed(0x6100620063000000L, 0x0000000000000064L, 0x6500000000000066L), 9);
        x = new BearTickets();
        for (int i = 0; i < 41; i++) {
            x.feed(0x2020202020202020L, 0x2020202020202020L, 0x2020202020202020L);
        }
        due("984 signs", x.count(12), 984);
        due("15 more", x.feed(0x2020202020202020L, 0x2020202020202000L, 0L), 999);
        due("the 1,000th", x.feed(0x6162000000000000L, 0x6300000000000000L, 0L), 1000);
        due("none beyond", x.feed(0x6162000000000000L, 0x6300000000000000L, 0x64L), 1000);
        due("the 1,000th is a word, behind it is the end", x.zoo(), 1 + 16 * 999);
        due("taken", x.count(12), 0);
        // Highest byte first, a before b before c.
        due("in order", x.feed(eight("pen a se", 0), eight("ats", 0), eight(" 7;", 0)), 14);
        due("in order", x.zoo(), 0);
        due("seats", x.pen(0, 0), 7);
    }

    private static void readingZoos() {
        promise = "3 zoo";
        zooFault("", 0, 0);
        zooFault(" \n ", 0, 0);
        zooFault("pen@", 1);
        zooFault("pen a seats 1@", 1);
        zooFault("pen a seats 1  \n@", 1);
        zooFault("@x;", 1);
        zooFault("@hour;", 1);
        zooFault("@;", 1);
        zooFault("@7", 1);
        zooFault("pen a@;", 1);
        zooFault("pen @pen seats 1;", 1);
        zooFault("pen @moods seats 1;", 1);
        zooFault("pen @or seats 1;", 1);
        zooFault("pen @single seats 1;", 1);
        zooFault("pen @A seats 1;", 1);
        zooFault("pen @abcdefghi seats 1;", 1);
        zooFault("pen abcdefgh seats 1;", 0, 0);
        zooFault("pen liked seats 1;pen fed seats 1;pen humour seats 1;", 0, 0);
        zooFault("pen a@1 seats 1;", 1);
        zooFault("pen a seats1;", 0, 0);
        zooFault("pen a seats 0009;", 0, 0);
        zooFault("pen a seats @00009;", 1);
        zooFault("pen a seats @10;", 4);
        zooFault("pen a seats @b;", 1);
        zooFault("pen a seats 1;pen @a seats 1;", 3);
        zooFault("pen a seats 1;guest @a boy mood 1 in a;", 3);
        zooFault("pen a seats 1;animal @a likes boy coins 1;", 3);
        zooFault("animal a likes boy coins 1;pen @a seats 1;", 3);
        zooFault("pen a seats 1;pen b seats 1;pen c seats 1;pen d seats 1;pen e seats 1;pen f seats 1;", 0, 0);
        zooFault("pen a seats 1;pen b seats 1;pen c seats 1;pen d seats 1;pen e seats 1;pen f seats 1;@pen a seats 99;", 5);
        zooFault("path @a b 1;", 2);
        zooFault("pen a seats 1;path a @b 1;", 2);
        zooFault("pen a seats 1;path a @a 1;", 3);
        zooFault("pen a seats 1;pen b seats 1;path a b 1;path b @a 2;", 3);
        zooFault("pen a seats 1;pen b seats 1;path a b @0;", 4);
        zooFault("pen a seats 1;pen b seats 1;path a b 30;", 0, 0);
        zooFault("pen a seats 1;pen b seats 1;path a b @31;", 4);
        zooFault("pen a seats 1;path a @in 1;", 1);
        zooFault("pen a seats 1;guest b boy mood 9in a;", 0, 0);
        zooFault("pen a seats 1;guest b @king mood 1 in a;", 1);
        zooFault("pen a seats 1;guest b @not mood 1 in a;", 1);
        zooFault("pen a seats 1;guest b @hour mood 1 in a;", 1);
        zooFault("pen a seats 1;guest b boy mood @10 in a;", 4);
        zooFault("pen a seats 1;guest b boy mood 1 in @b;", 2);
        zooFault("pen a seats 1;guest b boy mood 1 in @c;", 2);
        String six = "pen a seats 1;guest b boy mood 1 in a;guest c boy mood 1 in a;guest d boy mood 1 in a;"
            + "guest e boy mood 1 in a;guest f boy mood 1 in a;guest g boy mood 1 in a;";
        zooFault(six, 0, 0);
        zooFault(six + "@guest h boy mood 1 in a;", 5);
        zooFault("animal a likes boy coins 999;", 0, 0);
        zooFault("animal a likes boy coins @1000;", 4);
        zooFault("animal a likes @cat coins 1;", 1);
        zooFault("animal a likes boy coins 1;animal b likes boy coins 1;animal c likes boy coins 1;animal d likes boy coins 1;"
            + "animal e likes boy coins 1;@animal f likes boy coins 1;", 5);
        zooFault(six + "foe @a b;", 2);
        zooFault(six + "foe b @x;", 2);
        zooFault(six + "foe b @b;", 3);
        zooFault(six + "foe b c;foe c @b;", 3);
        zooFault(six + "foe b c;foe c d;", 0, 0);
        zooFault("feeds 9;", 0, 0);
        zooFault("feeds @10;", 4);
        zooFault("feeds 1;@feeds 1;", 3);
        zooFault("tyre 9 costs 99;", 0, 0);
        zooFault("tyre @0 costs 1;", 4);
        zooFault("tyre @10 costs 1;", 4);
        zooFault("tyre 1 costs @100;", 4);
        zooFault("tyre 1 costs 0;@tyre 1 costs 0;", 3);
        zooFault("rain 10;", 0, 0);
        zooFault("rain @11;", 4);
        zooFault("rain 1;@rain x;", 3);
        zooFault("sees 1;@sees 1;", 3);
        zooFault("moods 1;sees 1;@moods 1;", 3);
        zooFault("#@", 1, 0);
    }

    private static void readingLaws() {
        promise = "3 zoo, laws";
        zooFault("sees @;", 1);
        zooFault("sees @watched;", 1);
        zooFault("sees @fed;", 1);
        zooFault("moods @liked;", 1);
        zooFault("moods humour+others*watched-fed;", 0, 0);
        zooFault("sees liked+humour*others;", 0, 0);
        zooFault("sees @-1;", 1);
        zooFault("sees 1 @1;", 1);
        zooFault("sees 1<2@<3;", 1);
        zooFault("sees 1<2 and 3=4 or 5;", 0, 0);
        zooFault("sees 1 and@;", 1);
        zooFault("sees (1@;", 1);
        zooFault("sees (1)@);", 1);
        zooFault("sees 9999;", 0, 0);
        zooFault("sees @10000;", 1);
        zooFault("sees @x;", 1);
        zooFault("sees ((((1))));", 0, 0);
        zooFault("sees (((((@1)))));", 5);
        zooFault("sees (((((@(1))))));", 5);
        zooFault("sees not not not not 1;", 0, 0);
        zooFault("sees not not not not not @1;", 5);
        zooFault("sees not not not not not @not 1;", 5);
        zooFault("sees not (not (not @1;", 5);
        zooFault("sees not (not (not @(1)));", 5);
        zooFault("sees not(not(1))*((not 1));", 0, 0);
        zooFault("sees (((((@)))));", 1);
        zooFault("sees (((((@watched;", 1);
        zooFault("sees (((((@liked;", 5);
        zooFault("moods (((((@fed)))));", 5);
        zooFault("moods 1+(@);", 1);
        // Values: the worth of a boy's pen, he of mood 3, to one that likes boys.
        law("1+2*3", 7);
        law("10-3-2", 5);
        law("2*3+1", 7);
        law("not 0+5", 6);
        law("not 7", 0);
        law("not not 7", 1);
        law("3 and 2", 1);
        law("0 or 7", 1);
        law("0 or 0", 0);
        law("1 or 1 and 0", 0);
        law("0 and 1 or 1", 1);
        law("1+1=2", 1);
        law("1=2-2", 0);
        law("2<3", 1);
        law("3<3", 0);
        law("liked*10+humour", 13);
        law("others+4", 4);
        law("99", 99);
        law("100", 99);
        law("0-1", 0);
        law("9999*9999*100", 99);
        law("9999*9999*22", 0);
        law("(1+2)*(3+4)", 21);
        law("0-1<0", 1);
    }

    private static void law(String law, int worth) {
        BearTickets x = zoo("pen a seats 1;guest b boy mood 3 in a;animal c likes boy coins 999;sees " + law + ";");
        due("worth by " + law, x.worth(0, 0), worth);
    }

    private static void afterReadings() {
        promise = "3 zoo, what is then";
        BearTickets x = zoo(PARK);
        x.hour();
        x.mark(1, false);
        x.tell(-1);
        days(x, "hour;");
        feed(x, "pen a seats 10;");
        due("a fault", x.zoo(), 4 + 16 * 12);
        due("all stays", x.count(0), 3);
        due("all stays", x.count(5), 1);
        due("all stays", x.count(9), 1);
        due("all stays", x.count(10), 1);
        due("all stays", x.count(11), 1);
        due("the tape is taken", x.count(12), 0);
        feed(x, "pen a seats 1;animal b likes boy coins 7;");
        due("zoo", x.zoo(), 0);
        int[] want = {1, 0, 1, 0, 0, 0, 0, 0, 7, 0, 0, 0, 0};
        for (int what = 0; what < want.length; what++) {
            due("count " + what, x.count(what), want[what]);
        }
        due("no mark", x.mark(1, true), false);
        due("no undo", x.undo(), false);
        due("zoo of nothing", x.zoo(), 0);
        due("count 0", x.count(0), 0);
    }

    private static void readingDays() {
        promise = "4 days";
        BearTickets x = zoo(PARK);
        daysFault(x, "@day;", 1);
        daysFault(x, "@;", 1);
        daysFault(x, "@pen a seats 1;", 1);
        daysFault(x, "hour@", 1);
        daysFault(x, "hour @1;", 1);
        daysFault(x, "move @oak elm;", 2);
        daysFault(x, "move @bear elm;", 2);
        daysFault(x, "move ann @bob;", 2);
        daysFault(x, "move ann @elms;", 2);
        daysFault(x, "move ann @;", 1);
        daysFault(x, "move @hour elm;", 1);
        daysFault(x, "tyre @oak;", 2);
        daysFault(x, "tyre @3 costs 1;", 1);
        days(x, "move ann elm;hour;tyre dot;");
        due("count 9", x.count(9), 3);
        daysFault(x, "hour;hour;move ann @zed;", 2);
        due("all stays", x.count(9), 3);
        StringBuilder forty = new StringBuilder();
        for (int i = 0; i < 40; i++) {
            forty.append("hour;");
        }
        days(x, forty.toString());
        due("count 9", x.count(9), 40);
        daysFault(x, forty + "@hour;", 5);
        daysFault(x, forty + "@move zed;", 5);
        daysFault(x, forty + "@hours;", 1);
        daysFault(x, forty + "@;", 1);
        days(x, "");
        due("count 9", x.count(9), 0);
        x = new BearTickets();
        days(x, "hour;hour;");
        daysFault(x, "tyre @ann;", 2);
        due("judged 2", x.judged(2), 0);
    }

    private static void seeing() {
        promise = "5 pen";
        BearTickets x = zoo(PARK);
        due("seats", x.pen(0, 0), 2);
        due("seats", x.pen(2, 0), 0);
        due("guests", x.pen(0, 1), 3);
        due("guests", x.pen(2, 1), 8);
        due("animals", x.pen(0, 2), 3);
        due("animals", x.pen(1, 2), 4);
        due("animals", x.pen(2, 2), 0);
        due("others", x.pen(3, 0), -1);
        due("others", x.pen(-1, 0), -1);
        due("others", x.pen(0, 3), -1);
        due("others", x.pen(0, -1), -1);
        promise = "6 guest";
        int[] kinds = {0, 1, 3, 2};
        int[] moods = {3, 5, 1, 2};
        int[] pens = {0, 0, 1, 2};
        // Each: mood - 1 + watched - others.
        int[] after = {3 - 1 + 2 - 1, 5 - 1 + 2 - 1, 1 - 1 + 1, 2 - 1};
        for (int i = 0; i < 4; i++) {
            due("kind", x.guest(i, 0), kinds[i]);
            due("mood", x.guest(i, 1), moods[i]);
            due("pen", x.guest(i, 2), pens[i]);
            due("mood behind", x.guest(i, 3), after[i]);
        }
        due("others", x.guest(4, 0), -1);
        due("others", x.guest(-1, 1), -1);
        due("others", x.guest(0, 4), -1);
        due("others", x.guest(0, -1), -1);
        promise = "7 animal";
        // The bear: oak 2 + 9. The lynx: oak 6, elm 6 (5 + 1): the first. The stork: oak is full, elm 1.
        int[][] want = {{1, 20, 0, 11}, {3, 9, 0, 6}, {2, 99, 1, 1}};
        for (int i = 0; i < 3; i++) {
            for (int what = 0; what < 4; what++) {
                due("animal " + i + " " + what, x.animal(i, what), want[i][what]);
            }
        }
        due("others", x.animal(3, 0), -2);
        due("others", x.animal(-1, 0), -2);
        due("others", x.animal(0, 4), -2);
        due("others", x.animal(0, -1), -2);
        promise = "8 worth";
        due("worth", x.worth(0, 0), 11);
        due("worth", x.worth(1, 1), 6);
        due("worth, no seats", x.worth(2, 2), 7);
        due("others", x.worth(3, 0), -1);
        due("others", x.worth(-1, 0), -1);
        due("others", x.worth(0, 3), -1);
        due("others", x.worth(0, -1), -1);
        // Each guest counts from 0 to 99 by himself: 0 - 20 is 0, 500 is 99.
        x = zoo("pen a seats 9;guest b boy mood 3 in a;guest c poet mood 3 in a;guest d poet mood 3 in a;"
            + "animal e likes boy coins 5;animal f likes poet coins 150;animal g likes plain coins 5;sees liked*520-20;");
        due("worth", x.worth(0, 0), 99);
        due("worth", x.worth(1, 0), 198);
        due("worth", x.worth(2, 0), 0);
        due("pays what it has", x.animal(0, 3), 5);
        due("pays what it has", x.animal(1, 3), 150);
        due("worth 0: it sees nothing", x.animal(2, 2), -1);
        due("worth 0: it pays nothing", x.animal(2, 3), 0);
        due("hour", x.hour(), 155);
        due("one without coins comes all the same", x.pen(0, 2), 3);
    }

    private static void byHand() {
        promise = "9 move";
        BearTickets x = zoo(PARK);
        due("a foe is there", x.move(0, 1), false);
        due("he is there", x.move(0, 0), false);
        due("others", x.move(4, 0), false);
        due("others", x.move(-1, 0), false);
        due("others", x.move(0, 3), false);
        due("others", x.move(0, -1), false);
        due("nothing to undo", x.count(11), 0);
        due("move", x.move(0, 2), true);
        due("pen", x.guest(0, 2), 2);
        due("the foe of him", x.move(2, 2), false);
        due("move", x.move(2, 0), true);
        promise = "10 tyre";
        x = zoo(PARK);
        due("nothing is taken", x.tyre(0), -1);
        due("hour", x.hour(), 18);
        due("others", x.tyre(4), -1);
        due("others", x.tyre(-1), -1);
        due("mood 3 + 4", x.tyre(0), 7);
        due("taken", x.count(6), 12);
        due("9 at most", x.tyre(0), 9);
        due("taken", x.count(6), 6);
        due("just enough", x.tyre(0), 9);
        due("taken", x.count(6), 0);
        due("too little", x.tyre(0), -1);
        due("to undo", x.count(11), 4);
        x = zoo("pen a seats 1;guest b boy mood 0 in a;tyre 2 costs 0;");
        due("for nothing", x.tyre(0), 2);
        promise = "11 hour";
        x = zoo("pen a seats 1;guest b boy mood 1 in a;feeds 2;animal c likes plain coins 3;");
        // Worth 1, watched 1: the mood stays 1; three coins are three hours; fed in hours 2 and 12.
        int[] taken = {1, 1, 1, 0, 0};
        int[] moods = {1, 1, 3, 3, 3};
        for (int i = 0; i < 5; i++) {
            due("hour", x.hour(), taken[i]);
            due("mood", x.guest(0, 1), moods[i]);
            due("the hour", x.count(5), i + 1);
        }
        due("coins", x.animal(0, 1), 0);
        for (int i = 5; i < 13; i++) {
            x.hour();
        }
        due("fed in hour 12", x.guest(0, 1), 5);
        promise = "12 undo";
        x = zoo(PARK);
        x.hour();
        x.tyre(3);
        x.move(3, 1);
        x.tell(-1);
        due("undo a move", x.undo(), true);
        due("pen", x.guest(3, 2), 2);
        due("undo a tyre", x.undo(), true);
        due("mood", x.guest(3, 1), 1);
        due("taken", x.count(6), 18);
        due("undo an hour", x.undo(), true);
        due("taken", x.count(6), 0);
        due("the hour", x.count(5), 0);
        due("coins", x.count(8), 128);
        due("mood", x.guest(3, 1), 2);
        due("what is told stays", x.count(10), 1);
        due("no more", x.undo(), false);
        for (int i = 0; i < 20; i++) {
            x.hour();
        }
        due("the last 16", x.count(11), 16);
        for (int i = 0; i < 16; i++) {
            due("undo", x.undo(), true);
        }
        due("no more", x.undo(), false);
        due("the hour", x.count(5), 4);
    }

    private static void judging() {
        promise = "13 judged";
        BearTickets x = zoo(PARK);
        x.hour();
        x.move(1, 1);
        days(x, "move ann elm;hour;tyre dot;hour;hour;move dot elm;hour;");
        due("a foe is there", x.judged(0), 0);
        due("nobody paces", x.judged(1), -1);
        due("from the beginning", x.judged(2), 32);
        due("others", x.judged(3), -2);
        due("others", x.judged(-1), -2);
        due("nothing is done", x.count(5), 1);
        days(x, "hour;hour;tyre ann;tyre ann;tyre ann;tyre ann;tyre ann;tyre ann;");
        // 18 + 13 are taken, of which five tyres for 6 are paid; dot paces behind the second hour.
        due("too little", x.judged(0), 7);
        due("paces", x.judged(1), 1);
        due("taken", x.judged(2), 1);
        days(x, "hour;move bob oak;");
        due("he is there", x.judged(0), 1);
        days(x, "hour;");
        due("all can be", x.judged(0), -1);
        x = zoo("pen a seats 1;guest b boy mood 0 in a;");
        due("no lines", x.judged(1), -1);
        days(x, "tyre b;move b a;hour;");
        due("first that can't be", x.judged(0), 0);
        due("not behind a line that is left out", x.judged(1), 2);
        days(x, "move b a;");
        due("the one line is left out", x.judged(1), -1);
        x = zoo("pen a seats 1;pen c seats 1;guest b boy mood 0 in a;");
        days(x, "move b a;tyre b;move b c;move b a;");
        due("behind the first line that can be", x.judged(1), 2);
        x = zoo("pen a seats 0;guest b boy mood 1 in a;");
        days(x, "tyre b;hour;tyre b;");
        due("a line left out ahead of it is counted all the same", x.judged(1), 1);
    }

    private static void showing() {
        promise = "14 show";
        // One seat a pen: both apart are worth 7 each to both bears, together 6 + 1 to one alone.
        BearTickets x = zoo("pen a seats 1;pen b seats 1;guest c boy mood 2 in a;guest d boy mood 2 in a;"
            + "animal e likes boy coins 99;animal f likes boy coins 99;");
        due("taken", x.show(0), 14);
        due("pace", x.show(1), 0);
        due("row", x.show(2), 0);
        due("row", x.show(3), 1);
        due("others", x.show(4), -1);
        due("others", x.show(-1), -1);
        due("nothing is done", x.guest(1, 2), 0);
        // Nobody takes anything: the fewest pace if they are apart; then the first row.
        x = zoo("pen a seats 0;pen b seats 0;pen e seats 0;guest c boy mood 2 in a;guest d boy mood 2 in a;");
        due("taken", x.show(0), 0);
        due("pace", x.show(1), 0);
        due("row", x.show(2), 0);
        due("row", x.show(3), 1);
        x = zoo("pen a seats 1;guest c boy mood 2 in a;guest d boy mood 2 in a;foe c d;");
        for (int what = 0; what < 4; what++) {
            due("no way", x.show(what), -1);
        }
        // Before and after the coins are gone.
        x = zoo("pen a seats 1;pen b seats 1;guest c boy mood 5 in a;animal e likes boy coins 10;");
        due("taken", x.show(0), 10);
        due("hour", x.hour(), 10);
        due("taken", x.show(0), 0);
        x.undo();
        due("taken", x.show(0), 10);
        x.mark(0, false);
        x.hour();
        due("taken", x.show(0), 0);
        x.mark(0, true);
        due("taken", x.show(0), 10);
        x.hour();
        due("no coins: first of all rows", x.show(2), 0);
        // Both alone take 5 wherever they are; d paces unless he is seen, so he comes first, in the only seat.
        x = zoo("pen a seats 1;pen b seats 0;guest c boy mood 5 in a;guest d boy mood 1 in b;animal e likes boy coins 5;moods humour-1+watched;");
        due("taken", x.show(0), 5);
        due("pace", x.show(1), 0);
        due("row", x.show(2), 0);
        due("row", x.show(3), 0);
        x = zoo("pen a seats 1;pen b seats 0;guest c boy mood 5 in a;guest d boy mood 1 in b;animal e likes boy coins 5;moods humour-1+watched;foe c d;");
        due("taken", x.show(0), 5);
        due("pace", x.show(1), 0);
        due("row", x.show(2), 1);
        due("row", x.show(3), 0);
    }

    private static void telling() {
        promise = "15 tell";
        BearTickets x = zoo(PARK);
        due("no seats", x.tell(2), false);
        due("others", x.tell(3), false);
        due("others", x.tell(-2), false);
        due("count 10", x.count(10), 0);
        for (int i = 0; i < 8; i++) {
            due("tell", x.tell(i % 2 == 0 ? 0 : -1), true);
        }
        due("8 are told", x.tell(0), false);
        due("count 10", x.count(10), 8);
        promise = "16 sets";
        due("none", x.sets(0), 0);
        due("none", x.sets(1), -1);
        due("none", x.sets(2), -1);
        due("none", x.sets(3), -1);
        x = zoo(PARK);
        due("all", x.sets(0), 16);
        due("in all", x.sets(1), 0);
        due("in some", x.sets(2), 15);
        due("smallest", x.sets(3), 0);
        due("others", x.sets(4), -1);
        due("others", x.sets(-1), -1);
        // Ann in oak (3), bob and cid in elm: 5 - 1 and 1 - 1. Oak is chosen only if plain is liked (8 against 4),
        // and poet and single are not (then elm is 9).
        x.move(1, 1);
        x.tell(0);
        due("sets", x.sets(0), 2);
        due("in all", x.sets(1), 1);
        due("in some", x.sets(2), 5);
        due("smallest", x.sets(3), 1);
        x.move(1, 0);
        due("by what was then", x.sets(0), 2);
        promise = "17 next";
        // Mood 0 draws only those that like the kind: half of all; a good mood draws all.
        x = zoo("pen a seats 1;guest b plain mood 5 in a;guest c boy mood 0 in a;guest d poet mood 0 in a;");
        due("the first that parts them", x.next(), 1);
        x = zoo("pen a seats 1;guest b plain mood 5 in a;");
        due("none parts them", x.next(), -1);
        x = zoo("pen a seats 1;guest b boy mood 0 in a;guest c poet mood 0 in a;");
        x.move(1, 0);
        x.tell(-1);
        // Alone he would draw by 5; with one other by 4: it likes neither boys nor poets.
        due("sets", x.sets(0), 4);
        due("none parts them", x.next(), -1);
    }

    private static void keepingApart() {
        promise = "18 apart";
        BearTickets x = new BearTickets();
        due("nobody", x.apart(-1), 0);
        due("others", x.apart(0), -2);
        String five = "pen a seats 0;guest b boy mood 1 in a;guest c boy mood 1 in a;guest d boy mood 1 in a;"
            + "guest e boy mood 1 in a;guest f boy mood 1 in a;";
        x = zoo(five);
        due("no foes", x.apart(-1), 1);
        due("his", x.apart(4), 0);
        due("others", x.apart(5), -2);
        due("others", x.apart(-2), -2);
        // A ring of five asks for three.
        x = zoo(five + "foe b c;foe c d;foe d e;foe e f;foe f b;");
        due("how many", x.apart(-1), 3);
        int[] row = {0, 1, 0, 1, 2};
        for (int i = 0; i < 5; i++) {
            due("his", x.apart(i), row[i]);
        }
        // b - d - c - e: by turns, b 0 and c 0 would need three.
        x = zoo(five + "foe b d;foe d c;foe c e;foe e f;");
        due("how many", x.apart(-1), 2);
        int[] turns = {0, 0, 1, 1, 0};
        for (int i = 0; i < 5; i++) {
            due("his", x.apart(i), turns[i]);
        }
        x = zoo(five + "foe b e;foe e f;foe f c;");
        int[] path = {0, 1, 0, 1, 0};
        due("how many", x.apart(-1), 2);
        for (int i = 0; i < 5; i++) {
            due("his", x.apart(i), path[i]);
        }
    }

    private static void givingTyres() {
        promise = "19 tyres";
        // Each is less by 1: those of mood 1 pace.
        BearTickets x = zoo("pen a seats 0;pen e seats 0;pen f seats 0;guest b boy mood 1 in a;guest c boy mood 2 in e;guest d boy mood 1 in f;");
        due("as bits", x.tyres(), 5);
        due("nothing is given", x.guest(0, 1), 1);
        x = zoo("pen a seats 0;guest b boy mood 9 in a;moods 0;");
        due("all are not enough", x.tyres(), -1);
        x = zoo("pen a seats 0;guest b boy mood 1 in a;tyre 9 costs 1;");
        due("one", x.tyres(), 1);
        x = zoo("pen a seats 0;pen e seats 0;guest b boy mood 9 in a;guest c boy mood 9 in e;");
        due("none", x.tyres(), 0);
        // By a tyre c draws the only animal away from b, who can do without it.
        x = zoo("pen a seats 1;pen e seats 1;guest b boy mood 3 in a;guest c boy mood 1 in e;animal d likes boy coins 9;moods watched + (2<humour);");
        due("the other one", x.tyres(), 2);
        // The animal comes if either of them has one.
        x = zoo("pen a seats 1;guest b boy mood 0 in a;guest c boy mood 0 in a;animal d likes boy coins 9;sees humour;moods watched;");
        due("of equal ones the least", x.tyres(), 1);
        // A tyre would be too much of a good thing: what is enough is not always more.
        x = zoo("pen a seats 0;guest b boy mood 1 in a;tyre 1 costs 0;moods humour=1;");
        due("none", x.tyres(), 0);
        due("none", new BearTickets().tyres(), 0);
    }

    private static void walking() {
        promise = "20 walk";
        BearTickets x = zoo(PARK);
        int[][] want = {{10, 0, 1, 2, -1}, {14, 0, 1, 2, -1}, {10, 2, 1, 0, -1}};
        for (int pen = 0; pen < 3; pen++) {
            for (int what = 0; what < 5; what++) {
                due("walk " + pen + " " + what, x.walk(pen, what), want[pen][what]);
            }
        }
        due("others", x.walk(3, 0), -1);
        due("others", x.walk(-1, 0), -1);
        due("others", x.walk(0, -1), -1);
        x.move(2, 2);
        due("past an empty one", x.walk(0, 0), 10);
        due("order", x.walk(0, 2), 2);
        due("no more", x.walk(0, 3), -1);
        x = zoo("pen a seats 0;pen b seats 0;pen c seats 0;guest d boy mood 1 in c;path a b 3;");
        due("it can't be come to", x.walk(0, 0), -1);
        due("it can't be come to", x.walk(0, 1), -1);
        due("it is there", x.walk(2, 0), 0);
        due("it is there", x.walk(2, 1), 2);
        x = zoo("pen a seats 0;");
        due("nobody", x.walk(0, 0), 0);
        due("nobody", x.walk(0, 1), -1);
        x = zoo("pen a seats 0;pen b seats 0;pen c seats 0;guest d boy mood 1 in c;path a b 3;path b c 4;path a c 8;");
        due("a shorter way round", x.walk(0, 0), 7);
        x = zoo("pen a seats 0;pen b seats 0;pen c seats 0;guest d boy mood 1 in c;guest e boy mood 1 in b;path a b 3;path b c 4;path a c 3;");
        due("of equal ones the first", x.walk(0, 1), 1);
        due("minutes", x.walk(0, 0), 7);
    }

    private static void resting() {
        promise = "21 rests";
        BearTickets x = new BearTickets();
        due("how many", rests(x, 4, 0, -1), 2);
        due("first", rests(x, 4, 0, 0), 11);
        due("next", rests(x, 4, 0, 1), 22);
        due("none such", rests(x, 4, 0, 2), NO_SUCH);
        due("none such", rests(x, 4, 0, Integer.MAX_VALUE), NO_SUCH);
        due("all", rests(x, 0, 0, -1), 36);
        due("all", rests(x, 0, 9, 35), 66);
        // For 20 at no cost 3 to each of equal ones is 30, 2 for all is 40: 1 and 2 remain.
        due("how many", rests(x, 20, 0, -1), 2);
        // A cost of 9: whoever sells less loses less; at 6 each none can ask more.
        due("how many", rests(x, 20, 9, -1), 1);
        due("six", rests(x, 20, 9, 0), 66);
        // One animal stays away from equal prices: at 1 each nobody gains by going up.
        due("first of one", rests(x, 1, 0, 0), 11);
        due("others", rests(x, -1, 0, -1), NO_SUCH);
        due("others", rests(x, 21, 0, -1), NO_SUCH);
        due("others", rests(x, 1, -1, -1), NO_SUCH);
        due("others", rests(x, 1, 10, -1), NO_SUCH);
        due("others", rests(x, 1, 0, -2), NO_SUCH);
    }

    private static void raining() {
        promise = "22 rain";
        BearTickets x = zoo(PARK);
        // Cid has 1 and stays so only if the stork comes; dot goes from 2 to 1 to 0, whatever comes.
        due("rain", x.rain(2, 1), 200000);
        due("rain", x.rain(3, 1), 0);
        due("rain", x.rain(3, 2), 1000000);
        due("rain", x.rain(-1, 1), 200000);
        due("rain", x.rain(-1, 6), 1000000);
        due("others", x.rain(4, 1), -2);
        due("others", x.rain(-2, 1), -2);
        due("others", x.rain(0, 0), -2);
        due("others", x.rain(0, 7), -2);
        due("nothing is done", x.count(5), 0);
        // He paces behind the first hour in which it rains: 1 - 0.7 ^ n.
        x = zoo("pen a seats 1;guest b boy mood 1 in a;animal c likes boy coins 0;rain 3;moods watched;");
        int[] want = {300000, 510000, 657000, 759900, 831930, 882351};
        for (int i = 0; i < 6; i++) {
            due("rain of " + (i + 1), x.rain(0, i + 1), want[i]);
        }
        // Who paces now and no more does not count.
        x = zoo("pen a seats 1;guest b boy mood 0 in a;rain 5;moods 3;");
        due("rain", x.rain(0, 6), 0);
        x = zoo("pen a seats 1;guest b boy mood 1 in a;animal c likes boy coins 0;rain 10;moods watched;");
        due("always", x.rain(0, 1), 1000000);
        due("nobody", new BearTickets().rain(-1, 2), 0);
        promise = "23 first";
        x = zoo(PARK);
        due("cid", x.first(1), 2);
        // Behind two hours dot paces unless it is she who has it.
        due("dot", x.first(2), 3);
        due("others", x.first(0), -1);
        due("others", x.first(7), -1);
        due("no guests", new BearTickets().first(1), -1);
        x = zoo("pen a seats 1;guest b boy mood 9 in a;guest c boy mood 9 in a;");
        due("of equal ones the first", x.first(1), 0);
    }

    private static void livingOn() {
        promise = "24 years";
        // From 0: 12345 / 65536 is 0; 2147483648 is taken off by each.
        BearTickets x = zoo("pen a seats 1;guest b boy mood 1 in a;animal c likes boy coins 10;");
        // Worth 6, then 4 coins; he is watched in all four hours, and fed in hour 3.
        due("taken", x.years(0, 1, 0), 6);
        due("taken", x.years(0, 4, 0), 10);
        due("paces", x.years(0, 4, 1), 0);
        due("moods", x.years(0, 4, 2), 3);
        due("nothing is done", x.count(5), 0);
        due("others", x.years(-1, 1, 0), -1);
        due("others", x.years(10000, 1, 0), -1);
        due("others", x.years(0, 0, 0), -1);
        due("others", x.years(0, 101, 0), -1);
        due("others", x.years(0, 1, 3), -1);
        due("others", x.years(0, 1, -1), -1);
        due("a hundred", x.years(9999, 100, 0), 10);
        // Always rain: nobody comes, two pace behind each of three hours.
        x = zoo("pen a seats 1;guest b boy mood 1 in a;guest d boy mood 1 in a;animal c likes boy coins 10;rain 10;feeds 9;");
        due("taken", x.years(5, 3, 0), 0);
        due("paces", x.years(5, 3, 1), 6);
        due("moods", x.years(5, 3, 2), 0);
        // The draws from seed 1 are 16838, 5758, 10113 (known from the C standard's rand).
        x = zoo("pen a seats 1;pen e seats 0;guest b boy mood 1 in e;animal c likes boy coins 10;rain 4;");
        // 16838 mod 1: b; 5758 mod 2: a, where he is seen; 10113 mod 10 is 3: it rains by 4 of 10 ...
        due("rains", x.years(1, 1, 0), 0);
        x = zoo("pen a seats 1;pen e seats 0;guest b boy mood 1 in e;animal c likes boy coins 10;rain 3;");
        // ... and not by 3.
        due("moved and dry", x.years(1, 1, 0), 6);
        due("no guests: a draw each", new BearTickets().years(3, 2, 0), 0);
    }

    private static void marking() {
        promise = "25 mark";
        BearTickets x = zoo(PARK);
        due("none such", x.mark(4, false), false);
        due("none such", x.mark(-1, false), false);
        due("none such", x.mark(4, true), false);
        due("nothing is on it", x.mark(3, true), false);
        days(x, "hour;hour;");
        x.move(1, 1);
        x.tell(0);
        x.hour();
        due("laid", x.mark(3, false), true);
        due("undo stays", x.count(11), 2);
        int taken = x.count(6);
        int coins = x.count(8);
        int mood = x.guest(0, 1);
        days(x, "hour;");
        x.tell(-1);
        x.hour();
        x.move(1, 2);
        due("gone back to", x.mark(3, true), true);
        due("the hour", x.count(5), 1);
        due("guests", x.guest(1, 2), 1);
        due("moods", x.guest(0, 1), mood);
        due("coins", x.count(8), coins);
        due("taken", x.count(6), taken);
        due("days", x.count(9), 2);
        due("told", x.count(10), 1);
        due("sets", x.sets(0), 2);
        due("nothing can be undone", x.count(11), 0);
        due("nothing can be undone", x.undo(), false);
        x.hour();
        due("it is there still", x.mark(3, true), true);
        due("the hour", x.count(5), 1);
        due("laid anew", x.mark(3, false), true);
        due("nothing is on another", x.mark(0, true), false);
    }

    private static void counting() {
        promise = "26 count";
        BearTickets x = zoo(PARK);
        int[] want = {3, 4, 3, 2, 1, 0, 0, 0, 128, 0, 0, 0, 0};
        for (int what = 0; what < want.length; what++) {
            due("count " + what, x.count(what), want[what]);
        }
        x.hour();
        x.hour();
        due("who paces", x.count(7), 8);
        due("the hour", x.count(5), 2);
        due("taken", x.count(6), 31);
        due("coins", x.count(8), 97);
        due("to undo", x.count(11), 2);
        due("feed", feed(x, "abc"), 3);
        due("signs", x.count(12), 3);
        due("others", x.count(13), -1);
        due("others", x.count(-1), -1);
        due("others", x.count(Integer.MIN_VALUE), -1);
    }

    public static void main(String[] args) {
        newObject();
        feeding();
        readingZoos();
        readingLaws();
        afterReadings();
        readingDays();
        seeing();
        byHand();
        judging();
        showing();
        telling();
        keepingApart();
        givingTyres();
        walking();
        resting();
        raining();
        livingOn();
        marking();
        counting();
        System.out.println(checks + " checks, " + (wrong == 0 ? "all answers are as due" : wrong + " answers are not as due"));
        if (wrong != 0) {
            System.exit(1);
        }
    }
}
