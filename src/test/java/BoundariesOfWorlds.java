/**
 * The boundaries that the document names in worlds, telling, asking and hours: its part 2 and promises 6 to 18.
 * Each sentence has a test of its own.
 */
public final class BoundariesOfWorlds extends Checks {
    private static final long MIN = Long.MIN_VALUE;
    private static final int[] NO_NUMBERS = {-1, -2, 6, 7, 8, 64, Integer.MAX_VALUE, Integer.MIN_VALUE};

    /** Worlds rw wr ww, the second one true: p sees the only red and knows, q sees nobody and doesn't. */
    private static final String KNOWER = "colour r 1;colour w 2;person p w;person q r;sees p q;";
    /** The same worlds, ww true: nobody knows; p would, if q had red. */
    private static final String SILENT = "colour r 1;colour w 2;person p w;person q w;sees p q;";
    /** One world: both know. The numbers of seed 1 are 38 58 13 15 of a hundred. */
    private static final String BOTH = "colour r 2;person p r;person q r;sees q p;";
    private static final String ONE = "colour r 1;person p r;";
    private static final String SIX = "colour a 6;colour b 6;colour c 6;person p c;person q c;person s c;person t c;"
            + "person u c;person v c;";
    /** Nobody there: one world. */
    private static final String NOBODY = "colour r 1;fact never many r 1;fact ever many r 0;";

    private static int prize(String text) {
        HatRoom x = room(text);
        x.ask();
        return x.person(0, 3);
    }

    /** Who SAID so (bits) of two, one hour gone by. */
    private static int said(String text) {
        HatRoom x = room(text + "ask 0;");
        x.go(1);
        return x.person(0, 2) + 2 * x.person(1, 2);
    }

    // Worlds.

    private static void stocksOfWorlds() {
        sentence(8, "a COLOUR for each PERSON, of none more than its STOCK");
        HatRoom x = room("colour r 1;colour w 1;person p r;person q w;");
        due("as many hats as people", x.count(7), 2);
        due("world(0, 1)", x.world(0, 1), 1);
        due("world(1, 1)", x.world(1, 1), 0);
        due("one hat more", room("colour r 1;colour w 2;person p r;person q w;").count(7), 3);
        due("two hats more", room("colour r 2;colour w 2;person p r;person q w;").count(7), 4);
        due("none of a colour", room("colour r 0;colour w 2;person p w;person q w;").count(7), 1);
        due("more hats than people", room("colour r 6;colour w 6;person p w;").count(7), 2);
        due("three of six, of three colours", room("colour a 2;colour b 2;colour c 2;person p a;person q a;person s b;"
                + "person t b;person u c;person v c;").count(7), 90);
    }

    private static void numbersOfWorlds() {
        sentence(8, "numbered by the first PERSON's COLOUR, then the next one's and so on, the first COLOUR first");
        HatRoom x = room(SIX);
        int place = 243;
        for (int person = 0; person < 6; person++) {
            due("world(0, " + person + ")", x.world(0, person), 0);
            due("world(728, " + person + ")", x.world(728, person), 2);
            due("world(" + place + ", " + person + ")", x.world(place, person), 1);
            due("the world ahead, of the next one", x.world(place - 1, person), 0);
            place /= 3;
        }
        due("real()", x.real(), 728);
    }

    private static void allAtFirst() {
        sentence(8, "At first all WORLDS are LEFT");
        HatRoom x = room(SIX);
        due("the most", x.count(7), 729);
        due("world(729, 0)", x.world(729, 0), -2);
        due("the fewest", room("colour a 6;" + SIX.substring(SIX.indexOf("person")).replace(" c;", " a;")).count(7), 1);
        due("without people", room("colour r 0;colour w 6;").count(7), 1);
    }

    private static void alikeItself() {
        sentence(6, "ALIKE: WORLDS LEFT that he can't part from one (it as well)");
        HatRoom x = room(SIX + "sees p q s t u v;");
        due("all others seen", x.person(0, 5), 3);
        due("nobody seen", x.person(1, 5), 729);
        due("the only one", room(ONE).person(0, 5), 1);
        HatRoom y = room(KNOWER);
        due("alike to the true one alone", y.person(0, 5), 1);
        due("its colour alone", y.person(0, 4), 2);
    }

    private static void allWithoutPeople() {
        sentence(10, "all: P in all that are ALIKE for some PERSON (so, if there are no PEOPLE)");
        HatRoom x = room(NOBODY + "fact each all many r 1;fact no not all many r 1;");
        due("is(0)", x.is(0), 0);
        due("is(2)", x.is(2), 1);
        due("is(3)", x.is(3), 0);
        due("with one who doubts", room("colour r 1;colour w 1;person p r;fact f all hat p r;").is(0), 0);
        due("with one who doubts and one who doesn't",
                room("colour r 1;colour w 6;person p r;person q w;sees q p;fact f all hat p r;").is(0), 0);
    }

    private static void commonWithoutPeople() {
        sentence(12, "from one that is ALIKE for some PERSON to the next (it as well)");
        HatRoom x = room(NOBODY + "fact com common many r 1;fact too common many r 0;");
        due("common(0)", x.common(0), 0);
        due("common(1)", x.common(1), 1);
        due("is(2)", x.is(2), 0);
        due("is(3)", x.is(3), 1);
        // One world, all see all: nothing but itself is to be come to.
        HatRoom y = room(KNOWER + "sees q p;fact t hat q r;");
        y.tell(0);
        due("one world left", y.count(7), 1);
        due("common(0)", y.common(0), 1);
    }

    private static void manyAtLeast() {
        sentence(10, "many: so many HATS at least are of that COLOUR");
        HatRoom x = room("colour r 6;colour w 6;person p r;person q r;fact a many r 0;fact b many r 2;fact c many r 3;"
                + "fact d many w 0;fact e many w 1;fact f many r 6;");
        int[] so = {1, 1, 0, 1, 0, 0};
        for (int f = 0; f < so.length; f++) {
            due("is(" + f + ")", x.is(f), so[f]);
        }
        due("six of six", room(SIX + "fact f many c 6;").is(0), 1);
    }

    // Telling and asking.

    private static void lies() {
        sentence(18, "else it is a LIE, nothing comes of it");
        HatRoom x = room("colour r 2;colour w 2;person p r;fact lie hat p w;fact k own p;tell lie 0;tell k 0;tell lie 1;");
        due("go(1)", x.go(1), 1);
        due("lies", x.count(12), 2);
        due("heard", x.count(11), 0);
        due("left", x.count(7), 2);
        x.go(1);
        due("again, too", x.count(12), 3);
    }

    private static void heardAgain() {
        sentence(18, "it is HEARD (again, too)");
        HatRoom x = room(ONE + "fact f own p;fact g own p;tell f 0;tell f 0;tell f 1;tell g 1;law prize told;");
        x.go(1);
        due("twice", x.count(11), 2);
        due("told", x.law(0, 0), 2);
        x.go(1);
        due("four times", x.count(11), 4);
    }

    private static void toldByThoseLeftAhead() {
        sentence(15, "all those LEFT in which it isn't (by those LEFT ahead of it) are LEFT no more");
        // p knows his hat only in wr: told so, wr alone is left, then in it q knows his, too.
        HatRoom x = room(KNOWER + "fact k own p;fact n not own q;");
        due("q doesn't know", x.tell(1), 3);
        due("p knows", x.tell(0), 1);
        due("q knows", x.tell(1), -2);
        // 'not own p' is so in rw and ww, neither of which is the true one.
        due("a lie", room(KNOWER + "fact n not own p;").tell(0), -2);
    }

    private static void noNumberDrawn() {
        sentence(18, "no number, if E is 0 or 100");
        // The first number, 38, is q's if p, who sees nobody, has none.
        due("0: 38 is below 39", said(BOTH + "seed 1;law hush 39*seen;"), 1);
        due("0: 38 isn't below 38", said(BOTH + "seed 1;law hush 38*seen;"), 3);
        due("100: 38 is below 39", said(BOTH + "seed 1;law hush 100-61*seen;"), 0);
        due("100: 38 isn't below 38", said(BOTH + "seed 1;law hush 100-62*seen;"), 2);
        // 1 and 99 have one: then q's is 58.
        due("1: 58 isn't below 39", said(BOTH + "seed 1;law hush 1+38*seen;"), 3);
        due("99: 58 isn't below 39", said(BOTH + "seed 1;law hush 99-60*seen;"), 2);
    }

    private static void belowHush() {
        sentence(18, "is below E of hush");
        // Seed 194 begins with 99, seed 15 with 98, seed 101 with 1, seed 132 with 0.
        due("99 isn't below 99", said(BOTH + "seed 194;law hush 100-(1-seen);") & 1, 1);
        due("98 is below 99", said(BOTH + "seed 15;law hush 100-(1-seen);") & 1, 0);
        due("99 is never asked of 100", said(BOTH + "seed 194;shy 100;") & 1, 0);
        due("1 isn't below 1", said(BOTH + "seed 101;law hush 1-seen;") & 1, 1);
        due("0 is below 1", said(BOTH + "seed 132;law hush 1-seen;") & 1, 0);
    }

    private static void hushHeld() {
        sentence(16, "0 .. 100; shy without, with an ERROR");
        due("99 as it is", said(BOTH + "seed 194;law hush 99;") & 1, 1);
        due("above 100 as 100", said(BOTH + "seed 194;law hush 101;"), 0);
        due("far above", said(BOTH + "seed 194;law hush 9999*9999*9999;"), 0);
        due("below 0 as 0", said(BOTH + "seed 132;shy 100;law hush 0-1;"), 3);
        due("far below", said(BOTH + "seed 132;shy 100;law hush 0-9999*9999;"), 3);
        // No number is drawn beyond the bounds: 38 is q's.
        due("below 0: no number", said(BOTH + "seed 1;law hush 39*seen-(1-seen);"), 1);
        due("above 100: no number", said(BOTH + "seed 1;law hush 39*seen+101*(1-seen);"), 0);
        due("below 0 silence tells", left(SILENT + "law hush 0-1;"), 2);
        due("an ERROR: shy 100", said(BOTH + "seed 132;shy 100;law hush 1/0;"), 0);
        due("an ERROR: shy 0", said(BOTH + "seed 132;law hush 1/0;"), 3);
        due("an ERROR: shy 39", said(BOTH + "seed 1;shy 39;law hush 1/0;"), 2);
        due("without: shy 39", said(BOTH + "seed 1;shy 39;law prize 5;"), 2);
    }

    private static int left(String text) {
        HatRoom x = room(text);
        x.ask();
        return x.count(7);
    }

    private static void prizeHeld() {
        sentence(16, "0 .. 999; 10 without, with an ERROR");
        due("999", prize(ONE + "law prize 999;"), 999);
        due("1000", prize(ONE + "law prize 1000;"), 999);
        due("10 to the 12", prize(ONE + "law prize 1000*1000*1000*1000;"), 999);
        due("4294967296 is not 0", prize(ONE + "law prize 4096*4096*256;"), 999);
        due("0", prize(ONE + "law prize 0;"), 0);
        due("-1", prize(ONE + "law prize 0-1;"), 0);
        due("-10 to the 12", prize(ONE + "law prize 0-1000*1000*1000*1000;"), 0);
        due("an ERROR", prize(ONE + "law prize 1/0;"), 10);
        due("an ERROR", prize(ONE + "law prize 1000*1000*1000*1000+1;"), 10);
        due("without", prize(ONE + "law hush 0;"), 10);
    }

    private static void firstTime() {
        sentence(16, "who SAYS it the first time has E of prize");
        HatRoom x = room(ONE + "ask 0;ask 0;ask 1;law prize 7+hour;");
        x.go(1);
        due("twice in an hour", x.person(0, 3), 7);
        x.go(1);
        x.ask();
        due("again and again", x.person(0, 3), 7);
        HatRoom y = room(BOTH + "law prize 7;");
        y.ask();
        y.ask();
        due("the first one", y.person(0, 3), 7);
        due("the second one", y.person(1, 3), 7);
    }

    private static void aheadOfCounting() {
        sentence(16, "asked right ahead of counting him");
        HatRoom x = room("colour r 3;person p r;person q r;person s r;law prize said;");
        due("ask()", x.ask(), 7);
        for (int person = 0; person < 3; person++) {
            due("person(" + person + ", 3)", x.person(person, 3), person);
        }
    }

    private static void saidAheadOfHim() {
        sentence(16, "said: how many SAID so ever, those ahead of him with");
        HatRoom x = room("colour r 3;person p r;person q r;person s r;law hush (said=1)*100;");
        due("p says so, q and s are hushed by him", x.ask(), 1);
        due("all are hushed by p", x.ask(), 0);
        HatRoom y = room("colour r 3;person p r;person q r;person s r;law prize 100+said;law hush (said>1)*100;");
        due("p and q say so", y.ask(), 3);
        due("prize of q", y.person(1, 3), 101);
        due("law(0, 0)", y.law(0, 0), 102);
    }

    private static void wouldntKnow() {
        sentence(16, "one who SAYS so now wouldn't know his HAT");
        due("rw and ww go", left(KNOWER), 1);
        due("by the only world", left(ONE), 1);
        // Of the four worlds left there is none in which p wouldn't know.
        HatRoom x = room("colour b 1;colour r 3;colour w 3;person p b;person q r;person s w;sees q p;sees s p;fact f hat p b;");
        due("left", x.tell(0), 4);
        due("p says so", x.ask(), 1);
        due("all of them stay", x.count(7), 4);
    }

    private static void silenceOfTheBold() {
        sentence(16, "or one who doesn't, of whom E of hush is 0, would");
        due("hush 0: wr goes", left(SILENT), 2);
        due("hush 1: it stays", left(SILENT + "law hush 1;"), 3);
        due("hush 0 of p alone", left(SILENT + "law hush 1-seen;"), 2);
        due("hush 0 of q alone", left(SILENT + "law hush seen;"), 3);
        // One who KNOWS and is hushed doesn't say so, and nothing comes of it.
        due("hushed", left(KNOWER + "shy 100;"), 3);
        due("says so: only wr stays", left(KNOWER), 1);
    }

    private static void hushOfAll() {
        sentence(16, "asked of each PERSON by numbers, of those who don't KNOW, too");
        // Worlds rw wr ww of q and s, p is red alone: p says so, then said is 1 for q, who sees white of s.
        String three = "colour b 1;colour r 1;colour w 2;person p b;person q w;person s w;sees q p s;sees p q s;"
                + "fact f hat p b;";
        HatRoom x = room(three + "law hush said;");
        x.tell(0);
        due("left", x.count(7), 3);
        due("p says so", x.ask(), 1);
        due("q's silence tells nothing", x.count(7), 3);
        HatRoom y = room(three + "law hush 0;");
        y.tell(0);
        due("p says so", y.ask(), 1);
        due("q's silence tells", y.count(7), 2);
    }

    private static void askedOftenInAnHour() {
        sentence(18, "as often as ask is told of this HOUR, all are ASKED, one time behind the other");
        String wise = "colour red 3;colour white 2;person a red;person b red;person c red;"
                + "sees a b c;sees b a c;sees c a b;";
        HatRoom x = room(wise);
        x.go(200);
        due("none", x.count(7), 7);
        for (int n = 1; n <= 3; n++) {
            HatRoom y = room(wise + "ask 0;".repeat(n) + "ask 1;");
            y.go(1);
            due(n + " times: left", y.count(7), n == 1 ? 4 : 1);
            due(n + " times: said", y.count(9), n == 3 ? 3 : 0);
        }
    }

    private static void toldAheadOfAsked() {
        sentence(18, "Then it is the next HOUR");
        HatRoom x = room(ONE + "ask 0;ask 0;ask 1;law prize told*100+hour;fact f own p;tell f 0;");
        due("go(0)", x.go(0), 0);
        due("nothing in no hour", x.count(11) + x.count(9), 0);
        due("go(1)", x.go(1), 1);
        due("told first, then asked", x.person(0, 3), 100);
        due("count(6)", x.count(6), 1);
    }

    // Laws.

    private static void cutTowards0() {
        sentence(14, "/ is cut towards 0");
        due("7 / 2", room(ONE + "law prize 7/2;").law(0, 0), 3);
        due("-7 / 2", room(ONE + "law prize (0-7)/2;").law(0, 0), -3);
        due("7 / -2", room(ONE + "law prize 7/(0-2);").law(0, 0), -3);
        due("-7 / -2", room(ONE + "law prize (0-7)/(0-2);").law(0, 0), 3);
        due("-1 / 2", room(ONE + "law prize (0-1)/2;").law(0, 0), 0);
        due("0 / 7", room(ONE + "law prize 0/7;").law(0, 0), 0);
    }

    private static void errors() {
        sentence(14, "ERROR: / by 0, a value above 10 to the 12 or below 0 by more than that");
        String million = "1000*1000";
        String most = "(" + million + "*(" + million + "))";
        long tenToThe12 = 1000000000000L;
        due("/ by 0", room(ONE + "law prize 1/0;").law(0, 0), MIN);
        due("0 / 0", room(ONE + "law prize 0/0;").law(0, 0), MIN);
        due("/ by a value of 0", room(ONE + "law prize 1/(hour*5);").law(0, 0), MIN);
        due("10 to the 12", room(ONE + "law prize " + most + ";").law(0, 0), tenToThe12);
        due("1 more", room(ONE + "law prize " + most + "+1;").law(0, 0), MIN);
        due("1 less than its opposite", room(ONE + "law prize 0-" + most + "-1;").law(0, 0), MIN);
        due("its opposite", room(ONE + "law prize 0-" + most + ";").law(0, 0), -tenToThe12);
        due("by times", room(ONE + "law prize 1000*1001*(" + million + ");").law(0, 0), MIN);
        due("below by times", room(ONE + "law prize (0-1000*1001)*(" + million + ");").law(0, 0), MIN);
        due("not healed by what follows", room(ONE + "law prize (" + most + "+1)*0;").law(0, 0), MIN);
        due("not healed by comparing", room(ONE + "law prize " + most + "+1>0;").law(0, 0), MIN);
        // 2 to the 64 is 0, if a long wraps around.
        String power32 = "4096*4096*256";
        due("2 to the 32 by itself", room(ONE + "law prize " + power32 + "*(" + power32 + ");").law(0, 0), MIN);
        due("2 to the 37 by 2 to the 27", room(ONE + "law prize 4096*4096*4096*2*(4096*4096*8);").law(0, 0), MIN);
        due("2 to the 39 by 2 to the 25", room(ONE + "law prize 4096*4096*4096*8*(4096*4096*2);").law(0, 0), MIN);
        due("above a long", room(ONE + "law prize " + most + "*" + most + ";").law(0, 0), MIN);
        due("below a long", room(ONE + "law prize (0-" + most + ")*" + most + ";").law(0, 0), MIN);
        due("the largest ones by 1", room(ONE + "law prize (0-" + most + ")*(0-1);").law(0, 0), tenToThe12);
        due("the largest ones by 0", room(ONE + "law prize (0-" + most + ")*0;").law(0, 0), 0);
    }

    private static void bothSides() {
        sentence(14, "what isn't 0 is as 1, both sides are worked out");
        due("or", room(ONE + "law prize 1 or 1/0;").law(0, 0), MIN);
        due("and", room(ONE + "law prize 0 and 1/0;").law(0, 0), MIN);
        due("not of 2", room(ONE + "law prize not 2;").law(0, 0), 0);
        due("not of 0", room(ONE + "law prize not 0;").law(0, 0), 1);
        due("2 and below 0", room(ONE + "law prize 2 and (0-1);").law(0, 0), 1);
        due("4 and 3", room(ONE + "law prize 4 and 3;").law(0, 0), 1);
        due("0 or 4", room(ONE + "law prize 0 or 4;").law(0, 0), 1);
        due("4 or 3", room(ONE + "law prize 4 or 3;").law(0, 0), 1);
        due("2 = 2 is 1", room(ONE + "law prize 2=2;").law(0, 0), 1);
    }

    private static void comparisons() {
        sentence(14, "comparisons, and, or, not are 1 or 0");
        String[] signs = {"<", "<=", "=", "<>", ">=", ">"};
        // Of 1 and 2, 2 and 2, 3 and 2.
        int[][] so = {{1, 0, 0}, {1, 1, 0}, {0, 1, 0}, {1, 0, 1}, {0, 1, 1}, {0, 0, 1}};
        for (int i = 0; i < signs.length; i++) {
            for (int a = 1; a <= 3; a++) {
                due(a + signs[i] + 2, room(ONE + "law prize " + a + signs[i] + "2;").law(0, 0), so[i][a - 1]);
            }
        }
        for (int a = 0; a <= 2; a++) {
            for (int b = 0; b <= 2; b++) {
                due(a + " and " + b, room(ONE + "law prize " + a + " and " + b + ";").law(0, 0), a > 0 && b > 0 ? 1 : 0);
                due(a + " or " + b, room(ONE + "law prize " + a + " or " + b + ";").law(0, 0), a > 0 || b > 0 ? 1 : 0);
            }
            due("not " + a, room(ONE + "law prize not " + a + ";").law(0, 0), a > 0 ? 0 : 1);
        }
    }

    private static void namesOfTheLaw() {
        sentence(14, "hour: the HOUR; left: how many WORLDS are LEFT; seen: how many he SEES; knew: how many PEOPLE KNOW");
        String[] names = {"hour", "left", "seen", "knew", "said", "told", "alike"};
        int[][] least = {{0, 3, 1, 1, 0, 0, 1}, {0, 3, 0, 1, 0, 0, 3}};
        int[][] then = {{200, 1, 1, 2, 1, 1, 1}, {200, 1, 1, 2, 1, 1, 1}};
        for (int i = 0; i < names.length; i++) {
            HatRoom x = room(KNOWER + "fact f own p;ask 99;law prize " + names[i] + ";");
            due(names[i] + " of p", x.law(0, 0), least[0][i]);
            due(names[i] + " of q", x.law(0, 1), least[1][i]);
            // What is tried ahead has no part in what is now.
            x.ahead(100, 0, 0);
            due(names[i] + " of p", x.law(0, 0), least[0][i]);
            x.peep(1, 0);
            x.tell(0);
            x.ask();
            x.undo();
            x.go(99);
            x.ask();
            x.undo();
            due(names[i] + " of p at 99", x.law(0, 0), new int[] {99, 1, 1, 2, 0, 1, 1}[i]);
            x.go(101);
            due(names[i] + " of p at 200", x.law(0, 0), i == 4 ? 2 : then[0][i]);
            due(names[i] + " of q at 200", x.law(0, 1), i == 4 ? 2 : then[1][i]);
        }
        due("nobody left out", room("colour a 6;person p a;person q a;person s a;person t a;person u a;person v a;"
                + "sees p q s t u v;law prize 10*seen+knew;").law(0, 0), 56);
    }

    private static void numbersWrapAround() {
        sentence(31, "times 1103515245 and 12345, without what is above 31 bits, is the next one, whole");
        // The numbers from 2147483647 on: 29 9 62 18 13 26 80 63 32 34 of a hundred; with a 32nd bit kept they'd be
        // 29 77 30 18 81 26 80 63 32 2.
        String shy = ONE + "ask 0;shy ";
        int[] notBelow = {10, 9, 9, 8, 8, 8, 7, 6, 5, 4, 3, 3, 3, 2, 1, 1, 1, 0};
        int[] hush = {9, 10, 13, 14, 17, 18, 19, 27, 30, 33, 35, 60, 62, 63, 64, 70, 80, 81};
        for (int i = 0; i < hush.length; i++) {
            due("shy " + hush[i], room(shy + hush[i] + ";").chance(2147483647, 1, 0), notBelow[i]);
        }
    }

    private static void numbersFromTheSeed() {
        sentence(18, "Numbers: the last one, whole (at first the seed)");
        // 0 gives 0 68 88 17 98 27; the seed itself is none of them.
        HatRoom x = room(ONE + "ask 0;ask 1;ask 2;shy 1;");
        x.go(1);
        due("0 is below 1", x.count(9), 0);
        x.go(1);
        due("68 isn't", x.count(9), 1);
        HatRoom y = room("colour r 3;person p r;person q r;person s r;ask 0;shy 69;");
        y.go(1);
        due("0, 68, 88: only the third isn't below 69", y.person(0, 2) + 2 * y.person(1, 2) + 4 * y.person(2, 2), 4);
    }

    private static void below50ByCall() {
        sentence(16, "without numbers: he SAYS it, if E of hush is below 50");
        due("49", room(ONE + "shy 49;").ask(), 1);
        due("50", room(ONE + "shy 50;").ask(), 0);
        due("49 by the law", room(ONE + "law hush 49;").ask(), 1);
        due("50 by the law", room(ONE + "law hush 50;").ask(), 0);
        due("49 as it goes", room(ONE + "shy 49;ask 0;").ahead(1, 2, 0), 1);
        due("50 as it goes", room(ONE + "shy 50;ask 0;").ahead(1, 2, 0), 0);
        // No number is used up by a call: the hour's is 38.
        HatRoom x = room(ONE + "seed 1;shy 39;ask 0;");
        x.ask();
        x.undo();
        x.go(1);
        due("38 is below 39", x.count(9), 0);
    }

    private static void asAheadOfAsking() {
        sentence(16, "left, knew as ahead of asking");
        due("three left", prize(KNOWER + "law prize left;"), 3);
        due("one knew", prize(KNOWER + "law prize knew;"), 1);
        HatRoom x = room(KNOWER + "law prize left*10+knew;");
        x.ask();
        x.ask();
        due("one left, two knew, the second time", x.person(1, 3), 12);
    }

    // Promises 6 to 18.

    private static void noSuchPerson() {
        sentence(6, "IndexOutOfBoundsException: no such PERSON");
        HatRoom x = room(BOTH);
        for (int person : new int[] {-1, 2, 6, Integer.MAX_VALUE, Integer.MIN_VALUE}) {
            for (int what : new int[] {0, 3, 5, 6, -1}) {
                due("person(" + person + ", " + what + ")", thrown(x, person, what), 1);
            }
        }
        due("the last one", thrown(x, 1, 0), 0);
        due("nobody there", thrown(new HatRoom(), 0, 0), 1);
        due("six are there", thrown(room(SIX), 5, 5), 0);
        due("six are there", thrown(room(SIX), 6, 5), 1);
    }

    private static void noSuchWhat() {
        sentence(6, "NoSuchElementException: no such what");
        HatRoom x = room(BOTH);
        for (int what : new int[] {-1, 6, Integer.MAX_VALUE, Integer.MIN_VALUE}) {
            due("person(0, " + what + ")", thrown(x, 0, what), 2);
        }
        for (int what = 0; what <= 5; what++) {
            due("person(0, " + what + ")", thrown(x, 0, what), 0);
        }
    }

    private static void ownUnknown() {
        sentence(7, "-2: he doesn't; NONE: no such PERSON");
        HatRoom x = room(KNOWER);
        due("own(0)", x.own(0), 1);
        due("own(1)", x.own(1), -2);
        due("own(2)", x.own(2), -1);
        for (int person : NO_NUMBERS) {
            due("own(" + person + ")", x.own(person), -1);
        }
        due("a new object", new HatRoom().own(0), -1);
    }

    private static void worldsThere() {
        sentence(8, "-2: there are no so many; NONE: no such ones");
        HatRoom x = room(KNOWER);
        due("world(2, 1)", x.world(2, 1), 1);
        due("world(3, 1)", x.world(3, 1), -2);
        due("world(728, 1)", x.world(728, 1), -2);
        due("world(MAX, 1)", x.world(Integer.MAX_VALUE, 1), -2);
        due("world(-1, 1)", x.world(-1, 1), -1);
        due("world(MIN, 1)", x.world(Integer.MIN_VALUE, 1), -1);
        for (int person : NO_NUMBERS) {
            due("world(0, " + person + ")", x.world(0, person), -1);
            due("world(3, " + person + ")", x.world(3, person), -1);
        }
        x.ask();
        due("one is left", x.world(0, 1), 0);
        due("one is left", x.world(1, 1), -2);
    }

    private static void placeOfTheTrueOne() {
        sentence(9, "The place of the TRUE WORLD among those LEFT, from 0 on");
        due("nobody there", new HatRoom().real(), 0);
        HatRoom x = room(SIX + "fact f hat p c;fact g many c 5;fact h many c 6;");
        due("the last one", x.real(), 728);
        due("tell(0)", x.tell(0), 243);
        due("the last one", x.real(), 242);
        due("tell(1)", x.tell(1), 11);
        due("the last one", x.real(), 10);
        due("tell(2)", x.tell(2), 1);
        due("the only one", x.real(), 0);
        due("the first one", room(SIX.replace(" c;", " a;")).real(), 0);
    }

    private static void isOfNoFact() {
        sentence(10, "Whether a FACT is so in the TRUE WORLD now (1, 0); NONE: no such FACT");
        HatRoom x = room(NOBODY);
        due("is(0)", x.is(0), 0);
        due("is(1)", x.is(1), 1);
        due("is(2)", x.is(2), -1);
        for (int fact : NO_NUMBERS) {
            due("is(" + fact + ")", x.is(fact), -1);
        }
        // Now, not at first: told, it isn't so any more.
        HatRoom y = room(SILENT + "fact n many w 1 and not own p;fact t hat q w;fact w hat p w;");
        due("is(0)", y.is(0), 1);
        y.tell(2);
        due("is(0)", y.is(0), 0);
    }

    private static void sureOfNoOnes() {
        sentence(11, "so (1), that it isn't (0), neither (2); NONE: no such ones");
        HatRoom x = room(KNOWER + "fact f hat q r;fact n hat q w;");
        due("sure(0, 0)", x.sure(0, 0), 1);
        due("sure(0, 1)", x.sure(0, 1), 0);
        due("sure(1, 0)", x.sure(1, 0), 2);
        due("sure(1, 1)", x.sure(1, 1), 2);
        due("sure(2, 0)", x.sure(2, 0), -1);
        due("sure(0, 2)", x.sure(0, 2), -1);
        due("sure(2, 2)", x.sure(2, 2), -1);
        for (int n : NO_NUMBERS) {
            due("sure(" + n + ", 0)", x.sure(n, 0), -1);
            due("sure(0, " + n + ")", x.sure(0, n), -1);
        }
    }

    private static void commonOfNoFact() {
        sentence(12, "Whether a FACT is common in the TRUE WORLD now (1, 0); NONE: no such FACT");
        HatRoom x = room(KNOWER + "fact f many w 1;fact g hat q r;");
        due("common(0)", x.common(0), 1);
        due("common(1)", x.common(1), 0);
        due("common(2)", x.common(2), -1);
        for (int fact : NO_NUMBERS) {
            due("common(" + fact + ")", x.common(fact), -1);
        }
        x.ask();
        due("common(1) now", x.common(1), 1);
    }

    private static void noLaw() {
        sentence(14, "Long.MIN_VALUE: an ERROR, no such law, no such PERSON");
        HatRoom x = room(BOTH + "law hush 7;");
        due("law(1, 0)", x.law(1, 0), 7);
        due("law(1, 1)", x.law(1, 1), 7);
        due("not told", x.law(0, 0), MIN);
        due("an ERROR", room(BOTH + "law prize 1/0;").law(0, 0), MIN);
        for (int n : new int[] {-1, 2, 3, 6, Integer.MAX_VALUE, Integer.MIN_VALUE}) {
            due("law(" + n + ", 0)", x.law(n, 0), MIN);
            due("law(1, " + n + ")", x.law(1, n), MIN);
        }
        due("nobody there", room("law prize 5;").law(0, 0), MIN);
        // E as it is, not held at a bound.
        due("above 999", room(ONE + "law prize 1000;").law(0, 0), 1000);
        due("below 0", room(ONE + "law hush 0-1;").law(1, 0), -1);
    }

    private static void tellALie() {
        sentence(15, "-2: it would be a LIE (nothing comes of it, it isn't counted); NONE: no such FACT");
        HatRoom x = room(KNOWER + "fact lie hat p r;");
        due("tell(0)", x.tell(0), -2);
        for (int what : new int[] {11, 12, 13}) {
            due("count(" + what + ")", x.count(what), 0);
        }
        due("left", x.count(7), 3);
        due("undo()", x.undo(), -1);
        due("tell(1)", x.tell(1), -1);
        for (int fact : NO_NUMBERS) {
            due("tell(" + fact + ")", x.tell(fact), -1);
        }
        due("nothing to undo", x.count(13), 0);
        due("without facts", new HatRoom().tell(0), -1);
    }

    private static void askAgain() {
        sentence(16, "who SAYS so (bits; those who SAID so ahead, too)");
        HatRoom x = room("colour a 6;person p a;person q a;person s a;person t a;person u a;person v a;");
        due("all of six", x.ask(), 63);
        due("again", x.ask(), 63);
        due("nobody there", new HatRoom().ask(), 0);
        due("nobody knows", room(SILENT).ask(), 0);
        HatRoom y = room(KNOWER);
        due("p", y.ask(), 1);
        due("p again and q", y.ask(), 3);
    }

    private static void peepAtOne() {
        sentence(17, "how many are ALIKE for him then; -2: he SEES that one; NONE: no such PEOPLE, alike");
        HatRoom x = room(KNOWER);
        due("seen already", x.peep(0, 1), -2);
        due("nothing to undo", x.count(13), 0);
        due("peep(1, 0)", x.peep(1, 0), 2);
        due("once more", x.peep(1, 0), -2);
        due("peep(0, 0)", x.peep(0, 0), -1);
        due("peep(1, 1)", x.peep(1, 1), -1);
        for (int n : NO_NUMBERS) {
            due("peep(" + n + ", 0)", x.peep(n, 0), -1);
            due("peep(0, " + n + ")", x.peep(0, n), -1);
            due("peep(" + n + ", " + n + ")", x.peep(n, n), -1);
        }
        due("peep(2, 2)", x.peep(2, 2), -1);
        due("one to undo", x.count(13), 1);
        HatRoom y = room(SIX);
        for (int other = 0; other < 5; other++) {
            due("peep(5, " + other + ")", y.peep(5, other), new int[] {243, 81, 27, 9, 3}[other]);
        }
        due("all others", y.person(5, 1), 31);
    }

    private static void goSoManyHours() {
        sentence(18, "So many HOURS (0 .. 200) go by: which one it is; NONE, and none does: no such number");
        HatRoom x = room(KNOWER + "ask 0;");
        due("go(-1)", x.go(-1), -1);
        due("go(201)", x.go(201), -1);
        due("go(MAX)", x.go(Integer.MAX_VALUE), -1);
        due("go(MIN)", x.go(Integer.MIN_VALUE), -1);
        due("none goes by", x.count(6) + x.count(9), 0);
        due("go(0)", x.go(0), 0);
        due("none goes by", x.count(6) + x.count(9), 0);
        due("go(200)", x.go(200), 200);
        due("what is told of hour 0 has come", x.count(9), 1);
        due("go(1)", x.go(1), 201);
        due("go(201)", x.go(201), -1);
        due("count(6)", x.count(6), 201);
    }

    private static void behind9800() {
        sentence(18, "NONE, and none does: no such number, behind 9800");
        HatRoom x = new HatRoom();
        for (int i = 1; i <= 48; i++) {
            due("go(200)", x.go(200), 200 * i);
        }
        due("go(101)", x.go(101), 9701);
        x.ask();
        due("to 9801", x.go(100), -1);
        due("to 9901", x.go(200), -1);
        due("none goes by", x.count(6), 9701);
        due("what can be undone stays", x.count(13), 1);
        due("to 9800", x.go(99), 9800);
        due("to 9801", x.go(1), -1);
        due("to 9800", x.go(0), 9800);
        due("count(6)", x.count(6), 9800);
        HatRoom y = new HatRoom();
        for (int i = 1; i <= 49; i++) {
            due("go(200)", y.go(200), 200 * i);
        }
        due("to 10000", y.go(200), -1);
    }

    public static void main(String[] args) {
        stocksOfWorlds();
        numbersOfWorlds();
        allAtFirst();
        alikeItself();
        allWithoutPeople();
        commonWithoutPeople();
        manyAtLeast();
        lies();
        heardAgain();
        toldByThoseLeftAhead();
        noNumberDrawn();
        belowHush();
        hushHeld();
        prizeHeld();
        firstTime();
        aheadOfCounting();
        saidAheadOfHim();
        wouldntKnow();
        silenceOfTheBold();
        hushOfAll();
        askedOftenInAnHour();
        toldAheadOfAsked();
        cutTowards0();
        errors();
        bothSides();
        comparisons();
        namesOfTheLaw();
        numbersWrapAround();
        numbersFromTheSeed();
        below50ByCall();
        asAheadOfAsking();
        noSuchPerson();
        noSuchWhat();
        ownUnknown();
        worldsThere();
        placeOfTheTrueOne();
        isOfNoFact();
        sureOfNoOnes();
        commonOfNoFact();
        noLaw();
        tellALie();
        askAgain();
        peepAtOne();
        goSoManyHours();
        behind9800();
        finish(sentences + " sentences with a boundary in worlds, " + checks + " checks");
    }
}
