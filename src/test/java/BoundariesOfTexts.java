/**
 * The boundaries that the document names in what is fed and read: its part 1 and promises 1 to 5.
 * Each sentence has a test of its own; a ^ marks the place of a fault.
 */
public final class BoundariesOfTexts extends Checks {
    private static final String TWO = "colour r 2;person p r;person q r;";
    private static final String SIX = "colour r 6;person a r;person b r;person c r;person d r;person e r;person f r;";
    private static final String[] LANGUAGE = {"colour", "person", "sees", "fact", "tell", "ask", "shy", "seed", "law",
        "prize", "hush", "or", "and", "not", "hat", "own", "knows", "all", "common", "many", "as", "hour", "left", "seen",
        "knew", "said", "told", "alike"};
    // 64 knots, and 63: not, as often, of own.
    private static final String FULL = TWO + "fact f " + "not ".repeat(63) + "own p;";
    private static final String NEARLY_FULL = TWO + "fact f " + "not ".repeat(62) + "own p;";

    private static String facts(int n) {
        StringBuilder b = new StringBuilder("colour r 1;");
        for (int i = 0; i < n; i++) {
            b.append("fact ").append((char) ('a' + i)).append(" many r 1;");
        }
        return b.toString();
    }

    // How many of each there may be.

    private static void threeColours() {
        sentence(3, "COLOURS, at most 3");
        fine("colour a 1;colour b 1;colour c 1;", 3);
        faultAt(2, "colour a 1;colour b 1;colour c 1;^colour d 1;");
    }

    private static void stockOfHats() {
        sentence(3, "a STOCK of hats 0 .. 6");
        HatRoom x = room("colour none 0;colour r 6;person p r;person q r;");
        due("count(7)", x.count(7), 1);
        due("world(0, 0)", x.world(0, 0), 1);
        faultAt(2, "colour r ^7;");
        faultAt(1, "colour r ^-1;");
    }

    private static void sixPeople() {
        sentence(3, "PEOPLE, at most 6");
        fine(SIX, 7);
        faultAt(2, SIX + "^person g r;");
        faultAt(2, "colour r 6;colour w 6;" + SIX.substring(11) + "^person g w;");
    }

    private static void oneIsSeen() {
        sentence(3, "a PERSON SEES others, 1 at least");
        faultAt(1, TWO + "sees p^;");
        fine(TWO + "sees p q;", 4);
        HatRoom x = room(SIX + "sees a b c d e f;sees c a b d e f;");
        due("person(0, 1)", x.person(0, 1), 62);
        due("person(2, 1)", x.person(2, 1), 59);
        due("person(1, 1)", x.person(1, 1), 0);
    }

    private static void eightFacts() {
        sentence(3, "FACTS, at most 8");
        fine(facts(8), 9);
        faultAt(2, facts(8) + "^fact i many r 1;");
    }

    private static void twelveTells() {
        sentence(3, "tell, at most 12");
        HatRoom x = room(facts(1) + "tell a 3;".repeat(12));
        due("count(3)", x.count(3), 12);
        faultAt(2, facts(1) + "tell a 3;".repeat(12) + "^tell a 3;");
    }

    private static void hoursOfTells() {
        sentence(3, "a FACT in an HOUR 0 .. 99");
        HatRoom x = room(facts(1) + "tell a 0;tell a 99;");
        due("go(1)", x.go(1), 1);
        due("told in the first hour", x.count(12), 1);
        due("go(98)", x.go(98), 99);
        due("not yet told", x.count(12), 1);
        due("go(1)", x.go(1), 100);
        due("told in the last hour", x.count(12), 2);
        faultAt(2, facts(1) + "tell a ^100;");
    }

    private static void twelveAsks() {
        sentence(3, "ask, at most 12");
        HatRoom x = room("ask 3;".repeat(12));
        due("count(4)", x.count(4), 12);
        faultAt(2, "ask 3;".repeat(12) + "^ask 3;");
    }

    private static void hoursOfAsks() {
        sentence(3, "ask, at most 12: in an HOUR 0 .. 99");
        HatRoom x = room(TWO + "ask 0;law prize 1+hour;");
        due("go(1)", x.go(1), 1);
        due("asked in the first hour", x.count(10), 2);
        HatRoom y = room(TWO + "ask 99;");
        due("go(99)", y.go(99), 99);
        due("not yet asked", y.count(9), 0);
        due("go(1)", y.go(1), 100);
        due("asked in the last hour", y.count(9), 2);
        faultAt(2, "ask ^100;");
    }

    private static void shyOfAHundred() {
        sentence(3, "shy: of a hundred 0 .. 100 (0)");
        due("shy 0: all say so", room(TWO + "shy 0;").ask(), 3);
        due("shy 100: nobody does", room(TWO + "shy 100;").ask(), 0);
        due("without shy all say so", room(TWO).ask(), 3);
        faultAt(2, "shy ^101;");
    }

    private static void seeds() {
        sentence(3, "seed: 0 .. 99999 (0)");
        // The first number of 0 is 0, of 99999 it is 16 of a hundred, of 1 it is 38.
        String one = "colour r 1;person p r;ask 0;";
        due("seed 0, shy 1", saidSo(one + "seed 0;shy 1;"), 0);
        due("no seed, shy 1", saidSo(one + "shy 1;"), 0);
        due("seed 99999, shy 16", saidSo(one + "seed 99999;shy 16;"), 1);
        due("seed 99999, shy 17", saidSo(one + "seed 99999;shy 17;"), 0);
        due("seed 1, shy 38", saidSo(one + "seed 1;shy 38;"), 1);
        faultAt(2, "seed ^100000;");
    }

    private static int saidSo(String text) {
        HatRoom x = room(text);
        x.go(1);
        return x.count(9);
    }

    private static void manyOfAColour() {
        sentence(3, "many: a COLOUR, 0 .. 6");
        fine("colour r 1;fact f many r 0;fact g many r 6;", 3);
        faultAt(2, "colour r 1;fact f many r ^7;");
    }

    private static void numbersOfValues() {
        sentence(3, "N of E 0 .. 9999");
        HatRoom x = room("colour r 1;person p r;law prize 0;law hush 9999;");
        due("law(0, 0)", x.law(0, 0), 0);
        due("law(1, 0)", x.law(1, 0), 9999);
        faultAt(2, "law hush ^10000;");
        faultAt(2, "law hush 1+(2*^10000);");
    }

    // Words, numbers, signs, blanks.

    private static void lengthsOfNames() {
        sentence(3, "W: one of 1 .. 6 letters, none of those of the language");
        HatRoom x = room("colour a 1;colour zzzzzz 1;person b a;person aaaaaa zzzzzz;");
        due("one letter", x.named(0, letters("a")), 0);
        due("six letters", x.named(0, letters("zzzzzz")), 1);
        faultAt(1, "colour ^zzzzzzz 1;");
        faultAt(1, "colour a 1;person ^bbbbbbb a;");
        faultAt(1, TWO + "fact ^fffffff own p;");
    }

    private static void wordsOfTheLanguage() {
        sentence(3, "none of those of the language");
        for (String word : LANGUAGE) {
            faultAt(1, "colour ^" + word + " 1;");
            faultAt(1, "colour r 1;person ^" + word + " r;");
            faultAt(1, TWO + "fact ^" + word + " own p;");
            faultAt(1, TWO + "sees p ^" + word + ";");
        }
        fine("colour colou 1;colour asks 1;colour orr 1;", 3);
    }

    private static void wordsTooLong() {
        sentence(4, "a word of more than 6 letters that is none of the language, too");
        faultAt(1, "^colours r 1;");
        faultAt(1, "^aaaaaaaaaaaaaaaaaaaaaaaaaaaaaaaaaaaaaaaa");
        faultAt(1, "colour r 1;person p ^rrrrrrr;");
        faultAt(1, TWO + "fact f own ^ppppppp;");
        // Neither its first letters nor its last ones are a word of their own.
        faultAt(1, TWO + "sees p ^qaaaaaa;");
        faultAt(1, TWO + "fact f ^ownnnnn p;");
        faultAt(1, "law hush ^hourleft;");
    }

    private static void tokensThatAreNone() {
        sentence(4, "1 a TOKEN that is none");
        for (char sign : new char[] {0, 1, 31, '!', '"', '#', ',', '.', ':', '?', 'A', 'Z', '[', '`', '{', '~', 127, 128, 233, 255}) {
            faultAt(1, "shy 1;^" + sign);
            faultAt(1, "shy ^" + sign + "1;");
            faultAt(1, "shy 1^" + sign + ";");
        }
    }

    private static void blanks() {
        sentence(3, "Blanks 10, 32");
        fine("\n colour \n\n r  1 ; \n", 1);
        fine("colour r1;shy5;", 2);
        for (char sign : new char[] {0, 9, 11, 12, 13, 160}) {
            faultAt(1, "colour^" + sign + "r 1;");
        }
    }

    private static void signsOfTwo() {
        sentence(3, "A = (or > behind <) right behind < or > belongs to it");
        HatRoom x = room("colour r 1;person p r;law prize (1<=1)+(1>=1)*2+(1<>2)*4+(1<>1)*8+(2<=1)*16+(2<>1)*32+(1>=2)*64;");
        due("law(0, 0)", x.law(0, 0), 39);
        faultAt(1, "law hush 1< ^=1;");
        faultAt(1, "law hush 1>\n^=1;");
        faultAt(1, "law hush 1< ^>1;");
        faultAt(1, "law hush 1>^<1;");
        faultAt(1, "law hush 1>^>1;");
        faultAt(1, "law hush 1<^<1;");
        faultAt(1, "law hush 1=^=1;");
        faultAt(1, "law hush 1=^<1;");
        faultAt(1, "law hush 1=^>1;");
        faultAt(1, "law hush 1<=^=1;");
        faultAt(1, "law hush 1<=^>1;");
        faultAt(1, "law hush 1<>^=1;");
        faultAt(1, "law hush 1>=^=1;");
    }

    private static void brackets() {
        sentence(3, "(behind knows, all, common a not, and, or needs brackets)");
        faultAt(1, TWO + "fact f knows p ^not own p;");
        faultAt(1, TWO + "fact f all ^not own p;");
        faultAt(1, TWO + "fact f common ^not own p;");
        faultAt(1, TWO + "fact f knows p ^and own p;");
        fine(TWO + "fact f knows p (not own p);fact g all (own p and own q);fact h common (own p or own q);", 6);
        HatRoom x = room("colour r 2;colour w 2;person p r;person q r;sees p q;"
                + "fact a knows p hat q r and hat p r;fact b knows p (hat q r and hat p r);"
                + "fact c knows p hat p w or hat p r;fact d knows q (hat p w or hat p r);"
                + "fact e all hat q w or hat p r;fact g common many w 1 or hat p r;fact h knows q hat q r or not knows p hat q r;");
        int[] so = {1, 0, 1, 1, 1, 1, 0};
        for (int f = 0; f < so.length; f++) {
            due("is(" + f + ")", x.is(f), so[f]);
        }
    }

    private static void factsToldAhead() {
        sentence(3, "as: a FACT told ahead");
        HatRoom x = room(TWO + "fact f own p;fact g not as f;fact h as g or as f;fact i as g;");
        int[] so = {1, 0, 1, 0};
        for (int f = 0; f < so.length; f++) {
            due("is(" + f + ")", x.is(f), so[f]);
        }
        faultAt(4, TWO + "fact f as ^f;");
        faultAt(4, TWO + "fact f as ^g;fact g own p;");
    }

    // Faults: which one comes first, and where it is.

    private static void firstFault() {
        sentence(4, "the first along the text (of one place the least), with its place");
        faultAt(2, "colour r ^7;colour r 1;person p q;;");
        faultAt(5, "colour r 0;person p ^r;person p r;shy 101");
        faultAt(4, "tell ^f 100;");
        // Of one place: what can't stand there is the least, whatever else it is.
        faultAt(1, "colour a 1;colour b 1;colour c 1 ^colour");
        faultAt(1, "shy 1 ^shy 1;");
        faultAt(1, "shy 1 ^101;");
        faultAt(1, "law hush 1;law prize ^hush 1;");
        faultAt(1, "law hush ((((((((1 ^(1;");
        faultAt(1, FULL.substring(0, FULL.length() - 1) + " ^own q;");
        faultAt(1, TWO + "fact f " + "not ".repeat(60) + "own p;law hush 1<2^<3;");
        faultAt(1, FULL + "fact ^own own p;");
        // Of a law told again its rule is the place, of a knot too much the knot: both ahead of what comes behind.
        faultAt(3, "law hush 1;law ^hush 10000;");
        faultAt(2, FULL + "fact g ^own x;");
    }

    private static void outOfPlace() {
        sentence(4, "or can't stand there");
        for (String line : new String[] {"^;", "^r;", "^1;", "^prize 1;", "^hat p r;", "^(shy 1);", "^not;", "shy 1;^;",
            "colour ^1 1;", "colour ^;", "colour r ^;", "colour r ^r;", "colour r ^(1);", "colour r 1 ^2;", "colour r 1 ^r;",
            "person ^1 r;", "colour r 1;person p ^;", "colour r 1;person p ^1;", "colour r 1;person p r ^r;", "sees ^;",
            "sees ^1;", "fact ^;", "fact ^(own p);", "tell ^;", "tell ^0;", "ask ^;", "ask ^r;", "ask 1 ^1;", "shy ^;",
            "shy ^hour;", "shy 1 ^1;", "seed ^-1;", "seed 1^+1;", "law ^;", "law ^1;", "law ^seed 1;", "law ^hour 1;",
            "law hush ^;", "law hush ^own p;", "law hush ^r;", "law hush ^-1;", "law hush ^);", "law hush (^);",
            "law hush 1 ^1;", "law hush 1 ^hour;", "law hush 1 ^not 1;", "law hush 1^(2);", "law hush 1^);",
            "law hush (1)^);", "law hush (1^;", "law hush 1+^;", "law hush 1+^+1;", "law hush 1<^not 2;",
            "law hush 1*^not 2;", "law hush 1<2^<3;", "law hush 1=2^>=(3);", "law hush not^;", "law hush ^and 1;"}) {
            faultAt(1, line);
        }
        for (String formula : new String[] {"^;", "^1", "^hour", "^p", "^and own p", "^)", "(^)", "own ^1", "own ^own", "hat ^1 r",
            "hat p ^1", "hat p ^;", "knows ^;", "knows p ^p", "knows p ^;", "knows p ^not own q", "all ^not own q", "all ^1",
            "common ^;", "common ^not own q", "many ^1", "many r ^r", "many r ^;", "many r 1 ^1", "as ^;", "as ^as",
            "own p ^own q", "own p ^not own q", "own p ^+ own q", "own p ^= own q", "own p^<own q", "own p ^knows q own p",
            "own p ^(own q)", "own p^)", "(own p)^)", "(own p ^;", "own p and ^;", "own p or ^and own q", "not ^;"}) {
            faultAt(1, TWO + "fact f " + formula + ";");
        }
    }

    private static void endOfTheText() {
        sentence(4, "(the length, if more must come)");
        for (String part : new String[] {"colour", "colour r", "colour r 2", TWO + "person", TWO + "person s",
            "sees", TWO + "sees p", TWO + "sees p q", "fact", "fact f", "tell", "ask",
            "ask 0", "shy", "shy 0", "seed", "seed 0", "law", "law hush", "law prize", "law hush 1", "law hush not",
            "law hush hour", "law hush 1+", "law hush 1<", "law hush 1<=", "law hush (", "law hush (1", "law hush (1)",
            "law hush 1 and", TWO + "fact f hat", TWO + "fact f hat p", TWO + "fact f hat p r", TWO + "fact f own",
            TWO + "fact f knows", TWO + "fact f knows p", TWO + "fact f all", TWO + "fact f common", TWO + "fact f many",
            TWO + "fact f many r", TWO + "fact f many r 1", TWO + "fact f as", TWO + "fact f (own p", TWO + "fact f own p or",
            TWO + "fact f own p;fact g as f", TWO + "fact f own p;tell f", TWO + "fact f own p;tell f 0"}) {
            faulty(part, 1, part.length());
            faulty(part + " \n", 1, part.length() + 2);
        }
        faulty("shy 1  \n ", 1, 9);
        faulty(" ".repeat(699) + "1", 1, 699);
        faulty("shy " + " ".repeat(696), 1, 700);
    }

    private static void endOfWhatIsRead() {
        sentence(3, "The TAPE's first n bytes (it is empty then) are the TEXT");
        HatRoom x = new HatRoom();
        feedAll(x, "shy 1;shy 1;");
        due("text(6)", x.text(6), 1);
        due("the TAPE is empty", x.text(1), -2);
        feedAll(x, "shy 1;shy 1;");
        due("text(5)", x.text(5), -1);
        due("fault(1)", x.fault(1), 5);
        feedAll(x, "shy 1;");
        due("text(0)", x.text(0), 0);
        due("the TAPE is empty", x.text(1), -2);
        feedAll(x, "ask 1;ask 2;seed 33;");
        due("all of it", x.text(20), 3);
    }

    private static void nothingOfTextsAhead() {
        sentence(3, "are the TEXT (HOUR 0, all WORLDS LEFT");
        HatRoom x = new HatRoom();
        for (int i = 0; i < 4; i++) {
            due("all there is", load(x, FULL.substring(0, 40) + "not ".repeat(59) + "own p;sees p q;tell f 0;shy 9;seed 9;law hush 7;"
                    + "law prize 7;ask 1;"), 11);
            due("count(5)", x.count(5), 62);
            due("a fault amid signs that wait", load(x, TWO + "fact g ((not (own p and not;"), -1);
            due("a fault behind all there is", load(x, TWO + "sees q p;fact g own q;tell g 0;shy 8;seed 8;law hush 8;ask 8"), -1);
            due("less", load(x, "colour w 1;colour r 2;person q w;person p r;fact g hat p r;shy 50;seed 3;law hush left*0;"), 8);
            int[] counts = {2, 2, 1, 0, 0, 4, 0, 3, 0, 0, 0, 0, 0, 0};
            for (int what = 0; what < counts.length; what++) {
                due("count(" + what + ")", x.count(what), counts[what]);
            }
            due("q sees nobody", x.person(0, 1), 0);
            due("all are alike for q", x.person(0, 5), 3);
            due("real()", x.real(), 0);
            due("is(0)", x.is(0), 1);
            due("law(0, 0)", x.law(0, 0), Long.MIN_VALUE);
            due("law(1, 0)", x.law(1, 0), 0);
            due("a fault in the middle", load(x, "law prize 3;law hush 1+(2*;"), -1);
            due("nothing", load(x, ""), 0);
            due("knots", x.count(5), 0);
            due("the same names once more", load(x, "law prize 3;law hush 1;shy 7;seed 7;"), 4);
        }
    }

    private static void numbersTooLarge() {
        sentence(4, "2 too much (at it): a number beyond what is said");
        // Rows of digits that would be small again if they wrapped around.
        for (String number : new String[] {"101", "4294967296", "4294967297", "2147483648", "18446744073709551616",
            "18446744073709551617", "99999999999999999999999999999999", "1" + "0".repeat(64), "000101"}) {
            faultAt(2, "shy ^" + number + ";");
            faultAt(2, "ask ^" + number + ";");
            faultAt(2, "colour r ^" + number + ";");
            faultAt(2, facts(1) + "tell a ^" + number + ";");
            faultAt(2, "colour r 1;fact f many r ^" + number + ";");
        }
        faultAt(2, "seed ^4294967296;");
        faultAt(2, "seed ^18446744073709551616;");
        faultAt(2, "law hush ^4294967296;");
        faultAt(2, "law prize 1+^18446744073709551616;");
        fine("shy " + "0".repeat(100) + "100;", 1);
    }

    private static void tooManyLines() {
        sentence(4, "a fourth colour and so on (at the word of the LINE)");
        // Nothing more of the line is looked at.
        faultAt(2, "colour a 1;colour b 1;colour c 1;^colour");
        faultAt(2, SIX + "^person");
        faultAt(2, facts(8) + "^fact");
        faultAt(2, facts(1) + "tell a 0;".repeat(12) + "^tell");
        faultAt(2, "ask 0;".repeat(12) + "^ask");
    }

    private static void nineBrackets() {
        sentence(4, "a ninth '(' open");
        String eight = "((((((((own p))))))))";
        fine(TWO + "fact f " + eight + ";", 4);
        faultAt(2, TWO + "fact f ((((((((^(own p)))))))));");
        fine("law hush ((((((((1))))))));", 1);
        faultAt(2, "law hush ((((((((^(1)))))))));");
        // What is closed is open no more, and each formula begins anew.
        fine(TWO + "fact f " + eight + " and " + eight + ";fact g " + eight + ";law hush ((((((((1))))))));", 6);
        faultAt(2, TWO + "fact f (own p) and (((((((own q and (own p and ^(own q;");
        faultAt(2, TWO + "fact f knows p(all(not(common(own p and(own p and(own p and(own p and(own p and ^(");
    }

    private static void knotsOfFacts() {
        sentence(4, "a 65th KNOT of all F and E (hat, own, knows, all, common, many, as;");
        due("64 knots", room(FULL).count(5), 64);
        for (String knot : new String[] {"hat p r", "own p", "knows p own p", "all own p", "common own p", "many r 1", "as f"}) {
            faultAt(2, FULL + "fact g ^" + knot + ";");
            fine(NEARLY_FULL + "fact g " + (knot.endsWith(" own p") ? "own p" : knot) + ";", 5);
        }
        faultAt(2, NEARLY_FULL + "fact g knows p ^own p;");
        faultAt(2, NEARLY_FULL + "fact g all ^own p;");
        faultAt(2, NEARLY_FULL + "fact g common ^own p;");
    }

    private static void knotsOfValues() {
        sentence(4, "N, NAMES, signs; not, and, or: one each; brackets none)");
        for (String knot : new String[] {"1", "hour", "left", "seen", "knew", "said", "told", "alike", "not 1"}) {
            faultAt(2, FULL + "law hush ^" + knot + ";");
        }
        for (String sign : new String[] {"+", "-", "*", "/", "<", "<=", "=", "<>", ">=", ">", " and ", " or "}) {
            faultAt(2, NEARLY_FULL + "law hush 1" + (sign.startsWith(" ") ? " ^" + sign.substring(1) : "^" + sign) + "1;");
        }
        faultAt(2, NEARLY_FULL + "fact g own p ^and own q;");
        faultAt(2, NEARLY_FULL + "fact g own p ^or own q;");
        faultAt(2, NEARLY_FULL + "fact g not ^own p;");
        due("brackets are none", room(NEARLY_FULL + "fact g ((own p));").count(5), 64);
        due("brackets are none", room(NEARLY_FULL + "law hush ((1));").count(5), 64);
    }

    private static void namesToldAlready() {
        sentence(4, "3 told already: a name of its kind (at W)");
        faultAt(3, "colour r 1;colour ^r 2;");
        faultAt(3, TWO + "person ^p r;");
        faultAt(3, TWO + "fact f own p;fact ^f own q;");
        fine("colour p 1;person p p;fact p own p;", 3);
    }

    private static void numberedAsTheyCome() {
        sentence(5, "All numbered as they come; COLOURS, PEOPLE, FACTS have names of their kind");
        HatRoom x = room("colour b 1;person a b;colour a 1;person b a;fact b own a;fact a own b;");
        for (int what = 0; what <= 2; what++) {
            due("a of " + what, x.named(what, letters("a")), what == 1 ? 0 : 1);
            due("b of " + what, x.named(what, letters("b")), what == 1 ? 1 : 0);
        }
        due("person(0, 0)", x.person(0, 0), 0);
        due("person(1, 0)", x.person(1, 0), 1);
    }

    private static void sightToldAlready() {
        sentence(4, "what a PERSON SEES (at the first W)");
        faultAt(3, TWO + "sees p q;sees ^p q;");
        faultAt(3, TWO + "sees p q;sees q p;sees ^p 1");
        faultAt(3, SIX + "sees a b;sees ^a c;");
    }

    private static void seenByTheSameLine() {
        sentence(4, "one he SEES by the same LINE (at W)");
        faultAt(3, TWO + "sees p q ^q;");
        faultAt(3, SIX + "sees a b c d e f ^b;");
    }

    private static void shyOrSeedToldAlready() {
        sentence(4, "shy, seed (at the word)");
        faultAt(3, "shy 0;^shy 101;");
        faultAt(3, "seed 0;^seed;");
        fine("seed 0;shy 0;", 2);
    }

    private static void lawToldAlready() {
        sentence(4, "a law of its RULE (at RULE)");
        faultAt(3, "law prize 0;law ^prize 1;");
        faultAt(3, "law hush 0;law prize 1;law ^hush;");
        fine("law hush 0;law prize 0;", 2);
    }

    private static void namesNotToldAhead() {
        sentence(4, "4 a COLOUR, a PERSON, a FACT that isn't told ahead (at W)");
        faultAt(4, "person p ^r;colour r 1;");
        faultAt(4, TWO + "person s ^p;");
        faultAt(4, "colour p 1;sees ^p p;");
        faultAt(4, TWO + "sees p ^s;person s r;");
        faultAt(4, TWO + "sees p q ^r;");
        faultAt(4, TWO + "fact f hat ^r r;");
        faultAt(4, TWO + "fact f hat p ^p;");
        faultAt(4, TWO + "fact f own ^f;");
        faultAt(4, TWO + "fact f knows ^r own p;");
        faultAt(4, TWO + "fact f many ^p 1;");
        faultAt(4, TWO + "fact f as ^p;");
        faultAt(4, TWO + "tell ^p 0;fact p own p;");
    }

    private static void stockUsedUp() {
        sentence(4, "5 a HAT of a COLOUR of which as many PEOPLE have one as its STOCK (at the second W)");
        faultAt(5, "colour r 0;person p ^r;");
        faultAt(5, "colour r 1;colour w 1;person p r;person q w;person s ^w;");
        faultAt(5, TWO + "person s ^r;");
        fine("colour r 1;colour w 1;person p w;person q r;", 4);
    }

    private static void seesHimself() {
        sentence(4, "one who SEES himself (at W)");
        faultAt(5, TWO + "sees p ^p;");
        faultAt(5, TWO + "sees p q ^p;");
        faultAt(5, TWO + "sees q p ^q q;");
    }

    // Promises 1 to 5.

    private static void newObject() {
        sentence(1, "A TEXT without LINES (one WORLD is LEFT); an empty TAPE");
        HatRoom x = new HatRoom();
        due("count(7)", x.count(7), 1);
        due("real()", x.real(), 0);
        for (int what = 0; what < 14; what++) {
            due("count(" + what + ")", x.count(what), what == 7 ? 1 : 0);
        }
        due("world(0, 0)", x.world(0, 0), -1);
        due("undo()", x.undo(), -1);
        due("back()", x.back(), -1);
        due("text(1)", x.text(1), -2);
        due("text(0)", x.text(0), 0);
    }

    private static void calls512() {
        sentence(1, "An object is used for at most 512 calls after it has been made");
        HatRoom x = new HatRoom();
        load(x, "colour r 2;person p r;person q r;fact f own p;");
        // Three calls fed it and one read it.
        for (int i = 5; i <= 491; i++) {
            due("tell(0)", x.tell(0), 1);
        }
        for (int i = 19; i >= 0; i--) {
            due("undo()", x.undo(), i);
        }
        due("the 512th call", x.count(11), 467);
        HatRoom y = new HatRoom();
        for (int i = 1; i <= 256; i++) {
            due("feed", y.feed(0x73687920, 0x313b6173, 0x6b20393b, 0x21212121, 0x21212121), 20);
            due("text", y.text(i % 2 == 0 ? 12 : 13), i % 2 == 0 ? 2 : -1);
        }
    }

    private static void feedInOrder() {
        sentence(2, "Twenty bytes come behind the TAPE, four of each number, the highest first: how many it has");
        HatRoom x = new HatRoom();
        // "colour r 3;person pp", then " r;shy 7;seed 12345;".
        due("feed", x.feed(0x636f6c6f, 0x75722072, 0x20333b70, 0x6572736f, 0x6e207070), 20);
        due("feed", x.feed(0x20723b73, 0x68792037, 0x3b736565, 0x64203132, 0x3334353b), 40);
        due("text(40)", x.text(40), 4);
        due("named", x.named(1, letters("pp")), 0);
        // Bytes above 127 stay by themselves: none of them touches the one ahead.
        HatRoom y = new HatRoom();
        y.feed(0x73687920, 0x313bffff, 0xffffffff, 0x80808080, 0x80000000);
        due("text(6)", y.text(6), 1);
    }

    private static void feedTooMuch() {
        sentence(2, "NONE, and none come, if it would have more than 700");
        HatRoom x = new HatRoom();
        for (int i = 1; i <= 35; i++) {
            due("feed " + i, x.feed(0x20202020, 0x20202020, 0x20202020, 0x20202020, 0x20202020), 20 * i);
        }
        due("feed 36", x.feed(0x21212121, 0x21212121, 0x21212121, 0x21212121, 0x21212121), -1);
        due("feed 37", x.feed(0x20202020, 0x20202020, 0x20202020, 0x20202020, 0x20202020), -1);
        due("text(701)", x.text(701), -2);
        due("text(720)", x.text(720), -2);
        due("text(700)", x.text(700), 0);
        due("there is room again", x.feed(0, 0, 0, 0, 0), 20);
    }

    private static void textTooLong() {
        sentence(3, "-2, and the TAPE stays: there are not so many, n is below 0");
        HatRoom x = new HatRoom();
        due("feed", feedAll(x, "shy 1;ask 1;ask 1; "), 20);
        for (int n : new int[] {21, 40, 701, Integer.MAX_VALUE, -1, -20, Integer.MIN_VALUE}) {
            due("text(" + n + ")", x.text(n), -2);
        }
        due("the TAPE stays", x.text(19), 3);
    }

    private static void textWithFault() {
        sentence(3, "NONE with a FAULT, all else stays");
        HatRoom x = room(TWO + "fact f own p;fact no not own p;tell f 0;tell no 0;ask 0;seed 1;law prize 7;");
        x.go(1);
        x.keep();
        x.tell(0);
        due("a fault", load(x, "colour w 1;person z w;fact y own z;law hush 3;shy 9;!"), -1);
        int[] counts = {1, 2, 2, 2, 1, 4, 1, 1, 2, 2, 14, 2, 1, 1};
        for (int what = 0; what < counts.length; what++) {
            due("count(" + what + ")", x.count(what), counts[what]);
        }
        due("the TAPE is empty", x.text(1), -2);
        due("the name stays", x.named(1, letters("q")), 1);
        due("no new name", x.named(1, letters("z")), -1);
        due("the law stays", x.law(0, 0), 7);
        due("no new law", x.law(1, 0), Long.MIN_VALUE);
        due("what can be undone stays", x.undo(), 0);
        due("the IMAGE stays", x.back(), 1);
    }

    private static void textAnew() {
        sentence(3, "HOUR 0, all WORLDS LEFT, nothing HEARD, nobody SAID so, no PRIZES, LIES, no IMAGE, nothing to undo then");
        String text = "colour r 2;colour w 2;person p r;person q w;sees p q;fact f own p or hat p r;fact no hat p w;"
                + "tell f 0;tell no 0;ask 0;";
        HatRoom x = room(text);
        x.go(1);
        x.keep();
        x.peep(1, 0);
        x.tell(0);
        due("something is said", x.count(9), 1);
        due("text", load(x, text), 10);
        int[] counts = {2, 2, 2, 2, 1, 4, 0, 4, 0, 0, 0, 0, 0, 0};
        for (int what = 0; what < counts.length; what++) {
            due("count(" + what + ")", x.count(what), counts[what]);
        }
        due("person(0, 2)", x.person(0, 2), 0);
        due("person(0, 3)", x.person(0, 3), 0);
        due("person(1, 1)", x.person(1, 1), 0);
        due("person(1, 5)", x.person(1, 5), 4);
        due("real()", x.real(), 1);
        due("undo()", x.undo(), -1);
        due("back()", x.back(), -1);
        // Numbers begin with the seed again: 38 is below 39, and then 58 isn't.
        HatRoom y = new HatRoom();
        for (int i = 0; i < 3; i++) {
            load(y, "colour r 1;person p r;ask 0;ask 1;seed 1;shy 39;");
            y.go(1);
            due("38", y.count(9), 0);
            y.go(1);
            due("58", y.count(9), 1);
        }
    }

    private static void faultOfTheLatest() {
        sentence(4, "Of the latest text() that was not -2, what 0: its FAULT (0), 1: its place (NONE without)");
        HatRoom x = new HatRoom();
        due("fault(0) ahead of any", x.fault(0), 0);
        due("fault(1) ahead of any", x.fault(1), -1);
        due("a fault at 0", load(x, ";"), -1);
        due("fault(0)", x.fault(0), 1);
        due("fault(1)", x.fault(1), 0);
        due("text(1)", x.text(1), -2);
        due("text(-1)", x.text(-1), -2);
        due("fault(0) stays", x.fault(0), 1);
        due("fault(1) stays", x.fault(1), 0);
        due("another fault", load(x, "shy 101;"), -1);
        due("fault(0)", x.fault(0), 2);
        due("fault(1)", x.fault(1), 4);
        due("none", load(x, "shy 100;"), 1);
        due("fault(0)", x.fault(0), 0);
        due("fault(1)", x.fault(1), -1);
    }

    private static void faultOfAnotherWhat() {
        sentence(4, "NONE for another what.");
        HatRoom x = new HatRoom();
        load(x, "shy 101;");
        for (int what : new int[] {2, 3, -1, Integer.MAX_VALUE, Integer.MIN_VALUE}) {
            due("fault(" + what + ")", x.fault(what), -1);
        }
    }

    private static void lettersOfNames() {
        sentence(5, "5 bits each (a is 1; the first one highest of six, 0 behind the last one)");
        HatRoom x = room("colour a 1;colour zzzzzz 1;colour az 1;person p a;fact z own p;");
        due("a", x.named(0, 1 << 25), 0);
        due("zzzzzz", x.named(0, 0x35ad6b5a), 1);
        due("az", x.named(0, 1 << 25 | 26 << 20), 2);
        due("p", x.named(1, 16 << 25), 0);
        due("z", x.named(2, 26 << 25), 0);
        due("a lowest of six", x.named(0, 1), -1);
        due("a number above the letters", x.named(0, 1 << 25 | 1 << 30), -1);
        due("a number below 0", x.named(0, 1 << 25 | 1 << 31), -1);
    }

    private static void noSuchName() {
        sentence(5, "NONE: there is none such");
        HatRoom x = room("colour a 1;person p a;fact f own p;");
        due("no letters", x.named(0, 0), -1);
        due("of another kind", x.named(0, letters("p")), -1);
        due("of another kind", x.named(1, letters("f")), -1);
        due("of another kind", x.named(2, letters("a")), -1);
        for (int what : new int[] {3, -1, Integer.MAX_VALUE, Integer.MIN_VALUE}) {
            due("named(" + what + ", ..)", x.named(what, letters("a")), -1);
        }
        due("a new object", new HatRoom().named(0, 0), -1);
    }

    public static void main(String[] args) {
        threeColours();
        stockOfHats();
        sixPeople();
        oneIsSeen();
        eightFacts();
        twelveTells();
        hoursOfTells();
        twelveAsks();
        hoursOfAsks();
        shyOfAHundred();
        seeds();
        manyOfAColour();
        numbersOfValues();
        lengthsOfNames();
        wordsOfTheLanguage();
        wordsTooLong();
        tokensThatAreNone();
        blanks();
        signsOfTwo();
        brackets();
        factsToldAhead();
        firstFault();
        outOfPlace();
        endOfTheText();
        endOfWhatIsRead();
        nothingOfTextsAhead();
        numbersTooLarge();
        tooManyLines();
        nineBrackets();
        knotsOfFacts();
        knotsOfValues();
        namesToldAlready();
        numberedAsTheyCome();
        sightToldAlready();
        seenByTheSameLine();
        shyOrSeedToldAlready();
        lawToldAlready();
        namesNotToldAhead();
        stockUsedUp();
        seesHimself();
        newObject();
        calls512();
        feedInOrder();
        feedTooMuch();
        textTooLong();
        textWithFault();
        textAnew();
        faultOfTheLatest();
        faultOfAnotherWhat();
        lettersOfNames();
        noSuchName();
        finish(sentences + " sentences with a boundary in texts, " + checks + " checks");
    }
}
