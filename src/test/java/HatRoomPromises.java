/** Promise by promise: answers worked out by hand from the document. */
public final class HatRoomPromises extends Checks {
    /** Three reds of three reds and two whites, each sees both others: seven worlds, all but white thrice. */
    private static final String WISE = "colour red 3;colour white 2;person a red;person b red;person c red;"
            + "sees a b c;sees b a c;sees c a b;fact one many red 1;fact two many red 2;fact mine own a;"
            + "fact no hat a white;fact deep all all many red 1;";
    private static final String THRICE = "ask 0;ask 1;ask 2;";

    private static void aNewObject() {
        promise = 1;
        HatRoom x = new HatRoom();
        for (int what = 0; what < 14; what++) {
            due("count(" + what + ")", x.count(what), what == 7 ? 1 : 0);
        }
        due("real()", x.real(), 0);
        due("fault(0)", x.fault(0), 0);
        due("fault(1)", x.fault(1), -1);
        due("text(1)", x.text(1), -2);
        due("text(0)", x.text(0), 0);
        due("parts()", x.parts(), 1);
        due("rounds(0)", x.rounds(0), 0);
        due("teachAll()", x.teachAll(), 0);
        due("go(200)", x.go(200), 200);
        due("NONE", HatRoom.NONE, -1);
    }

    private static void feeding() {
        promise = 2;
        HatRoom x = new HatRoom();
        for (int i = 1; i <= 35; i++) {
            due("feed " + i, x.feed(0x20202020, 0x20202020, 0x20202020, 0x20202020, 0x20202020), 20 * i);
        }
        due("feed 36", x.feed(0, 0, 0, 0, 0), -1);
        due("text(701)", x.text(701), -2);
        due("text(700)", x.text(700), 0);
        due("feed again", x.feed(0, 0, 0, 0, 0), 20);
        // The highest byte of the first number comes first: 'shy 7;' and blanks.
        HatRoom y = new HatRoom();
        due("feed", y.feed(0x73687920, 0x373b2020, 0x20202020, 0x20202020, 0x20202080), 20);
        due("text(19)", y.text(19), 1);
        y.feed(0x73687920, 0x373b2020, 0x20202020, 0x20202020, 0x20202080);
        due("text(20)", y.text(20), -1);
        due("fault(1)", y.fault(1), 19);
    }

    private static void readingAgain() {
        promise = 3;
        HatRoom x = room("colour r 2;colour w 2;person p w;person q w;sees p q;sees q p;fact f hat p w;law prize 5;"
                + "law hush 5;shy 5;seed 5;tell f 0;ask 0;");
        for (int i = 0; i < 4; i++) {
            due("text", load(x, "colour r 1;colour b 1;person q b;person p r;fact g own q;"), 5);
            due("real()", x.real(), 1);
            due("person(0, 0)", x.person(0, 0), 1);
            due("person(0, 1)", x.person(0, 1), 0);
            due("law(0, 0)", x.law(0, 0), Long.MIN_VALUE);
            due("count(3)", x.count(3), 0);
            due("count(4)", x.count(4), 0);
            due("named p", x.named(1, letters("p")), 1);
            due("named f", x.named(2, letters("f")), -1);
            due("a fault", load(x, "colour r 2;colour w 2;person p w;shy 3;seed 3;law prize 1;law hush 1;ask"), -1);
            due("count(1)", x.count(1), 2);
            due("shy, seed, laws again", load(x, "shy 5;seed 1;law prize 1;law hush 100;"), 4);
        }
    }

    private static void reading() {
        promise = 3;
        HatRoom x = room(WISE + THRICE);
        due("text again", load(x, WISE + THRICE), 16);
        x.go(2);
        x.tell(0);
        x.keep();
        int has = feedAll(x, "law");
        due("text(21)", x.text(has + 1), -2);
        due("text(-1)", x.text(-1), -2);
        due("the TAPE stays", feedAll(x, " "), 40);
        due("a fault", x.text(40), -1);
        due("the TAPE is empty", feedAll(x, "shy 1;"), 20);
        due("all else stays: hour", x.count(6), 2);
        due("all else stays: people", x.count(1), 3);
        due("all else stays: undo", x.count(13), 1);
        due("all else stays: image", x.back(), 2);
        x.tell(0);
        due("what is behind n is not read", x.text(6), 1);
        due("no people", x.count(1), 0);
        due("no image", x.back(), -1);
        due("nothing to undo", x.undo(), -1);
        due("hour 0", x.count(6), 0);
        HatRoom y = room("colour r 2;person p r;person q r;sees p q;fact t many r 2;fact l many r 0;fact n not many r 0;"
                + "tell t 0;tell n 0;ask 0;");
        y.go(1);
        due("heard", y.count(11), 1);
        due("lies", y.count(12), 1);
        due("said", y.count(9), 2);
        due("prizes", y.count(10), 20);
        due("text", load(y, "colour r 2;colour b 2;person p r;person q r;sees p q;fact t many r 2;"), 6);
        due("left", y.count(7), 4);
        for (int what = 8; what <= 12; what++) {
            due("count(" + what + ")", y.count(what), 0);
        }
        due("person(0, 2)", y.person(0, 2), 0);
        due("person(0, 3)", y.person(0, 3), 0);
        due("person(1, 1)", y.person(1, 1), 0);
        due("knots", y.count(5), 1);
    }

    private static void faultsOfTokens() {
        promise = 4;
        HatRoom x = new HatRoom();
        due("fault(2)", x.fault(2), -1);
        due("fault(-1)", x.fault(-1), -1);
        load(x, "ask 100;");
        x.text(5);
        due("a text() of -2 changes nothing", x.fault(0), 2);
        due("a text() of -2 changes nothing", x.fault(1), 4);
        load(x, "ask 99;");
        due("fault(0)", x.fault(0), 0);
        due("fault(1)", x.fault(1), -1);
        faulty(";", 1, 0);
        faulty("shy 1", 1, 5);
        faulty("shy 1  \n", 1, 8);
        faulty("shy", 1, 3);
        faulty("shy ;", 1, 4);
        faulty("shy 1;;", 1, 6);
        faulty("shy 1;Shy", 1, 6);
        faulty("shy\t1;", 1, 3);
        faulty("shy 1;\u00e9", 1, 6);
        faulty("shyy 1;", 1, 0);
        faulty("colour r r;", 1, 9);
        faulty("colour 1 r;", 1, 7);
        faulty("colour hush 1;", 1, 7);
        faulty("colour alike 1;", 1, 7);
        faulty("colour scarlet 1;", 1, 7);
        faulty("colour r 1 1;", 1, 11);
        faulty("fact f many", 1, 11);
        faulty("law 1;", 1, 4);
        faulty("law hush ;", 1, 9);
        faulty("law hush 1 2;", 1, 11);
        faulty("law hush 1<2<3;", 1, 12);
        faulty("law hush 1< =2;", 1, 12);
        faulty("law hush 1+not 2;", 1, 11);
        faulty("law hush (1;", 1, 11);
        faulty("law hush 1);", 1, 10);
        faulty("law hush r;", 1, 9);
        faulty("law hush -1;", 1, 9);
        faulty("law hush 1=<2;", 1, 11);
        faulty("law hush 1><2;", 1, 11);
        fine("", 0);
        fine(" \n ", 0);
        fine("colour purple 6;", 1);
        fine("colour\nr1;person p r;", 2);
        fine("colour r 0000006;", 1);
        fine("law hush not not 1<(2<3)and(1<>2)=(3>=2)or 1<=2-1;", 1);
    }

    private static void faultsOfFormulas() {
        promise = 4;
        String two = "colour r 2;person p r;person q r;";
        int n = two.length();
        faulty(two + "fact f knows p not own p;", 1, n + 15);
        faulty(two + "fact f all not own p;", 1, n + 11);
        faulty(two + "fact f common not own p;", 1, n + 14);
        faulty(two + "fact f own p and;", 1, n + 16);
        faulty(two + "fact f own p own q;", 1, n + 13);
        faulty(two + "fact f own p + own q;", 1, n + 13);
        faulty(two + "fact f hour;", 1, n + 7);
        faulty(two + "fact f 1;", 1, n + 7);
        faulty(two + "fact f ();", 1, n + 8);
        faulty(two + "fact f (own p;", 1, n + 13);
        faulty(two + "fact f own p);", 1, n + 12);
        faulty(two + "fact f own p not;", 1, n + 13);
        faulty(two + "fact f hat p;", 1, n + 12);
        faulty(two + "fact f many r;", 1, n + 13);
        faulty(two + "fact f as f;", 4, n + 10);
        faulty(two + "fact f own r;", 4, n + 11);
        faulty(two + "fact f hat p q;", 4, n + 13);
        faulty(two + "fact f knows x own p;", 4, n + 13);
        faulty(two + "fact f many p 1;", 4, n + 12);
        faulty(two + "fact f many r 7;", 2, n + 14);
        faulty(two + "fact f own p;fact f own p;", 3, n + 18);
        fine(two + "fact p own p;fact r as p;", 5);
        fine(two + "fact f knows p all common (not own p and own q or own q);", 4);
        fine(two + "fact f not not knows p knows q (hat p r);", 4);
        String eight = "((((((((own p))))))))";
        fine(two + "fact f " + eight + " and " + eight + ";", 4);
        faulty(two + "fact f (" + eight + ");", 2, n + 15);
        faulty("law prize " + "(".repeat(9) + "1" + ")".repeat(9) + ";", 2, 18);
        fine("law prize " + "(".repeat(8) + "1" + ")".repeat(8) + ";", 1);
        HatRoom x = room(two + "fact f " + "not ".repeat(63) + "own p;");
        due("count(5)", x.count(5), 64);
        faulty(two + "fact f " + "not ".repeat(64) + "own p;", 2, n + 7 + 256);
        faulty(two + "fact f " + "not ".repeat(62) + "own p;law hush 1+1;", 2, n + 7 + 248 + 6 + 10);
        fine("law hush 1" + "+1".repeat(31) + ";law prize 2;", 2);
        faulty("law hush 1" + "+1".repeat(31) + ";law prize 2+2;", 2, 83 + 1);
    }

    private static void faultsOfLines() {
        promise = 4;
        faulty("colour r 7;", 2, 9);
        faulty("colour r 99999999999999999999;", 2, 9);
        faulty("colour a 1;colour b 1;colour c 1;colour 1;", 2, 33);
        faulty("colour r 6;" + "person a r;person b r;person c r;person d r;person e r;person f r;person g r;", 2, 77);
        faulty("colour r 1;" + "fact f own p;".repeat(1), 4, 22);
        String facts = "colour r 1;";
        for (char c = 'a'; c <= 'h'; c++) {
            facts += "fact " + c + " many r 1;";
        }
        fine(facts, 9);
        faulty(facts + "fact i many r 1;", 2, facts.length());
        fine(facts + "tell a 99;".repeat(12) + "ask 99;".repeat(12), 33);
        faulty(facts + "tell a 99;".repeat(12) + "tell", 2, facts.length() + 120);
        faulty("ask 99;".repeat(12) + "ask 1;", 2, 84);
        faulty(facts + "tell a 100;", 2, facts.length() + 7);
        faulty("ask 100;", 2, 4);
        faulty("shy 101;", 2, 4);
        fine("shy 100;seed 99999;", 2);
        faulty("seed 100000;", 2, 5);
        faulty("law prize 10000;", 2, 10);
        fine("law prize 9999;", 1);
        faulty("shy 0;shy 0;", 3, 6);
        faulty("seed 0;seed 0;", 3, 7);
        faulty("law prize 0;law hush 0;law hush 0;", 3, 27);
        faulty("colour r 1;colour r 1;", 3, 18);
        faulty("colour r 2;person r r;person r r;", 3, 29);
        String two = "colour r 2;person p r;person q r;";
        faulty(two + "sees p q;sees p", 3, 47);
        faulty(two + "sees p q q;", 3, 42);
        faulty(two + "sees p q p;", 5, 42);
        faulty(two + "sees p p;", 5, 40);
        faulty(two + "sees p;", 1, 39);
        faulty(two + "sees p q 1;", 1, 42);
        faulty(two + "sees x q;", 4, 38);
        faulty(two + "sees p x;", 4, 40);
        faulty(two + "person s r;", 5, 42);
        faulty("colour r 0;person p r;", 5, 20);
        faulty("person p r;", 4, 9);
        faulty("tell f 0;", 4, 5);
        faulty("colour r 1;person p r;tell p 0;", 4, 27);
    }

    private static void names() {
        promise = 5;
        HatRoom x = room("colour r 2;colour purple 2;person r r;person z purple;fact purple own z;");
        due("named r", x.named(0, letters("r")), 0);
        due("named r by number", x.named(0, 18 << 25), 0);
        due("named purple", x.named(0, letters("purple")), 1);
        due("named r", x.named(1, letters("r")), 0);
        due("named z", x.named(1, letters("z")), 1);
        due("named purple", x.named(1, letters("purple")), -1);
        due("named purple", x.named(2, letters("purple")), 0);
        due("named purpl", x.named(0, letters("purpl")), -1);
        due("named 0", x.named(0, 0), -1);
        due("named behind", x.named(0, 18), -1);
        due("named -1", x.named(0, -1), -1);
        due("named what 3", x.named(3, letters("r")), -1);
        due("named what -1", x.named(-1, letters("r")), -1);
    }

    private static void people() {
        promise = 6;
        HatRoom x = room("colour r 3;colour b 1;colour w 1;person p r;person q b;sees p q;ask 0;fact t hat p r;");
        due("person(1, 0)", x.person(1, 0), 1);
        due("person(0, 1)", x.person(0, 1), 2);
        due("person(1, 1)", x.person(1, 1), 0);
        due("person(0, 4)", x.person(0, 4), 5);
        due("person(1, 4)", x.person(1, 4), 7);
        due("person(0, 5)", x.person(0, 5), 2);
        due("person(1, 5)", x.person(1, 5), 7);
        due("person(0, 2)", x.person(0, 2), 0);
        x.tell(0);
        due("person(0, 4)", x.person(0, 4), 1);
        x.go(1);
        due("person(0, 2)", x.person(0, 2), 1);
        due("person(0, 3)", x.person(0, 3), 10);
        due("person(1, 2)", x.person(1, 2), 0);
        due("person(1, 3)", x.person(1, 3), 0);
        due("person(2, 0)", thrown(x, 2, 0), 1);
        due("person(-1, 0)", thrown(x, -1, 0), 1);
        due("person(2, 9)", thrown(x, 2, 9), 1);
        due("person(0, 6)", thrown(x, 0, 6), 2);
        due("person(0, -1)", thrown(x, 0, -1), 2);
        due("person(0, 0)", thrown(x, 0, 0), 0);
        due("person(0, 0)", thrown(new HatRoom(), 0, 0), 1);
    }

    private static void ownHatsAndWorlds() {
        HatRoom x = room(WISE);
        promise = 7;
        due("own(0)", x.own(0), -2);
        due("own(3)", x.own(3), -1);
        due("own(-1)", x.own(-1), -1);
        HatRoom y = room("colour red 1;colour white 2;person a red;person b white;sees a b;sees b a;");
        due("own(1)", y.own(1), 1);
        due("own(0)", y.own(0), -2);
        StringBuilder six = new StringBuilder("colour r 6;colour w 6;");
        for (char c = 'a'; c <= 'f'; c++) {
            six.append("person ").append(c).append(" w;");
        }
        HatRoom many = room(six + "sees a f;sees b a c d e f;");
        due("alike", many.person(5, 5), 64);
        due("alike", many.person(0, 5), 32);
        due("alike", many.person(1, 5), 2);
        promise = 8;
        due("world(62, 5)", many.world(62, 5), 0);
        due("world(62, 0)", many.world(62, 0), 1);
        due("world(1, 5)", many.world(1, 5), 1);
        due("real()", many.real(), 63);
        // rrr rrw rwr rww wrr wrw wwr
        due("world(3, 0)", x.world(3, 0), 0);
        due("world(3, 1)", x.world(3, 1), 1);
        due("world(3, 2)", x.world(3, 2), 1);
        due("world(4, 0)", x.world(4, 0), 1);
        due("world(6, 1)", x.world(6, 1), 1);
        due("world(6, 2)", x.world(6, 2), 0);
        due("world(7, 0)", x.world(7, 0), -2);
        due("world(0, 3)", x.world(0, 3), -1);
        due("world(7, 3)", x.world(7, 3), -1);
        due("world(-1, 0)", x.world(-1, 0), -1);
        promise = 9;
        due("real()", x.real(), 0);
        due("real()", y.real(), 0);
        HatRoom z = room("colour r 2;colour w 2;person a w;person b r;person c w;fact f hat a w;fact g hat b r;");
        // rrw rwr rww wrr wrw wwr
        due("real()", z.real(), 4);
        z.tell(0);
        due("real()", z.real(), 1);
        due("world(0, 1)", z.world(0, 1), 0);
        due("world(1, 2)", z.world(1, 2), 1);
        z.tell(1);
        due("real()", z.real(), 1);
        z.undo();
        z.undo();
        due("real()", z.real(), 4);
    }

    private static void factsNow() {
        HatRoom x = room(WISE + "fact odd not as one or as two and as no;fact bc knows b (hat c red and not own a);"
                + "fact com common as one;");
        promise = 10;
        int[] so = {1, 1, 0, 0, 1, 0, 1, 1};
        for (int f = 0; f < so.length; f++) {
            due("is(" + f + ")", x.is(f), so[f]);
        }
        due("is(8)", x.is(8), -1);
        due("is(-1)", x.is(-1), -1);
        promise = 11;
        due("sure(0, 0)", x.sure(0, 0), 1);
        due("sure(0, 2)", x.sure(0, 2), 0);
        due("sure(0, 3)", x.sure(0, 3), 2);
        due("sure(1, 3)", x.sure(1, 3), 0);
        due("sure(3, 0)", x.sure(3, 0), -1);
        due("sure(0, 8)", x.sure(0, 8), -1);
        promise = 12;
        due("common(0)", x.common(0), 1);
        due("common(1)", x.common(1), 0);
        due("common(8)", x.common(8), -1);
        due("common(-1)", x.common(-1), -1);
        x.tell(1);
        due("common(1)", x.common(1), 1);
        promise = 12;
        // a and b see each other's hats, c nobody's: with one red of a and b four pairs are left, two sets.
        HatRoom pairs = room("colour r 6;colour w 6;person a r;person b w;sees a b;sees b a;fact odd hat a r and hat b w or"
                + " hat a w and hat b r;fact same hat a r;fact com common hat a r;fact may common (own a or own b);");
        due("common(1)", pairs.common(1), 0);
        due("is(2)", pairs.is(2), 0);
        pairs.tell(0);
        due("common(1)", pairs.common(1), 1);
        due("is(2)", pairs.is(2), 1);
        due("likely(2, 1)", pairs.likely(2, 1), 2);
        HatRoom chain = room("colour r 6;colour w 6;person a r;person b r;person c r;sees a b c;sees b a c;sees c a b;"
                + "fact odd many r 3 or many w 2 and not many w 3;fact mid many r 2;fact com common many r 2;"
                + "fact rest common (not many r 2);");
        chain.tell(0);
        // rrr alone; rww wrw wwr apart from each other, too.
        due("parts()", chain.parts(), 4);
        due("common(1)", chain.common(1), 1);
        due("likely(2, 1)", chain.likely(2, 1), 4);
        due("likely(3, 0)", chain.likely(3, 0), 3);
        // aca baa bba bcb are left: q ties the last three by p, s the first and the last one by q.
        HatRoom tied = room("colour a 6;colour b 6;colour c 6;person p a;person q c;person s a;sees p q s;sees q p;sees s q;"
                + "fact four hat p a and hat q c and hat s a or hat p b and hat q a and hat s a or hat p b and hat q b and"
                + " hat s a or hat p b and hat q c and hat s b;fact i not hat q a;fact ii not hat q b;fact iii not hat s b;");
        due("tell(0)", tied.tell(0), 4);
        due("parts()", tied.parts(), 1);
        for (int f = 1; f <= 3; f++) {
            due("common(" + f + ")", tied.common(f), 0);
        }
        HatRoom first = room("colour a 6;colour b 6;person p b;person q b;sees p q;sees q p;fact f many b 1;");
        due("common(0)", first.common(0), 0);
        promise = 13;
        HatRoom y = room("colour red 3;colour white 3;person a red;person b red;person c red;"
                + "sees a b c;sees b a c;sees c a b;fact one many red 1;fact two many red 2;fact no many white 1;");
        // One person's doubt turns one hat: three steps lead from rrr to www, two to one red, one to two.
        due("depth(0)", y.depth(0), 2);
        due("depth(1)", y.depth(1), 1);
        due("depth(2)", y.depth(2), -2);
        due("depth(3)", y.depth(3), -1);
        y.tell(0);
        due("depth(0)", y.depth(0), 20);
        HatRoom z = room("colour r 1;fact no many r 1;fact each all many r 1;fact com common many r 1;");
        due("without people", z.is(0), 0);
        due("without people all", z.is(1), 1);
        due("without people common", z.is(2), 0);
        due("without people depth", z.depth(1), 20);
        due("without people depth", z.depth(0), -2);
    }

    private static void laws() {
        promise = 14;
        HatRoom x = room(WISE + "law prize hour*1000+left*100+seen*10+knew;law hush said*100+told*10+alike;");
        due("law(0, 0)", x.law(0, 0), 720);
        due("law(1, 0)", x.law(1, 0), 2);
        x.tell(0);
        x.tell(1);
        due("law(1, 1)", x.law(1, 1), 22);
        // Each knows of two reds at least that he sees; own hats stay unknown.
        x.go(1);
        due("law(0, 2)", x.law(0, 2), 1420);
        due("law(2, 0)", x.law(2, 0), Long.MIN_VALUE);
        due("law(-1, 0)", x.law(-1, 0), Long.MIN_VALUE);
        due("law(0, 3)", x.law(0, 3), Long.MIN_VALUE);
        due("law(0, -1)", x.law(0, -1), Long.MIN_VALUE);
        due("no law", room(WISE).law(0, 0), Long.MIN_VALUE);
        String one = "colour r 1;person p r;law prize ";
        due("cut towards 0", room(one + "(0-7)/2;").law(0, 0), -3);
        due("/ by 0", room(one + "1/hour;").law(0, 0), Long.MIN_VALUE);
        due("both sides", room(one + "1 or 1/0;").law(0, 0), Long.MIN_VALUE);
        due("both sides", room(one + "0 and 1/0;").law(0, 0), Long.MIN_VALUE);
        String million = "1000*1000";
        due("10 to the 12", room(one + million + "*" + million + ";").law(0, 0), 1000000000000L);
        due("above", room(one + million + "*" + million + "+1;").law(0, 0), Long.MIN_VALUE);
        due("above, then below", room(one + million + "*" + million + "+1-2;").law(0, 0), Long.MIN_VALUE);
        due("below", room(one + "0-" + million + "*" + million + ";").law(0, 0), -1000000000000L);
        due("below more", room(one + "0-" + million + "*" + million + "-1;").law(0, 0), Long.MIN_VALUE);
        due("beyond a long", room(one + "(" + million + "*" + million + ")*(" + million + "*" + million + ");")
                .law(0, 0), Long.MIN_VALUE);
        due("times 0", room(one + "(0-" + million + "*" + million + ")*(0-1)*0;").law(0, 0), 0);
        due("not", room(one + "not 5;").law(0, 0), 0);
        due("and", room(one + "5 and (0-1);").law(0, 0), 1);
        due("or", room(one + "0 or 0;").law(0, 0), 0);
        due("signs", room(one + "(1<1)+(1<=1)*2+(1=1)*4+(1<>1)*8+(1>=2)*16+(2>1)*32;").law(0, 0), 38);
        due("signs", room(one + "(1<2)+(2<=1)*2+(1=2)*4+(1<>2)*8+(2>=2)*16+(1>1)*32+(2>=1)*64+(1>2)*128;").law(0, 0), 89);
        due("and", room(one + "5 and 0;").law(0, 0), 0);
        due("or", room(one + "0 or 5;").law(0, 0), 1);
        due("order", room(one + "2+3*4-6/2;").law(0, 0), 11);
        due("order", room(one + "not 1=2 and 3-1-1;").law(0, 0), 1);
        due("order", room(one + "1 or 0 and 0;").law(0, 0), 1);
        due("order", room(one + "1+2<3;").law(0, 0), 0);
        due("order", room(one + "9-2>2*3 and 7/2=3;").law(0, 0), 1);
    }

    private static void tellingByCall() {
        promise = 15;
        HatRoom x = room(WISE + "law prize told;");
        due("tell(3)", x.tell(3), -2);
        due("a lie by call isn't counted", x.count(12), 0);
        due("a lie can't be undone", x.count(13), 0);
        due("tell(0)", x.tell(0), 7);
        due("tell(1)", x.tell(1), 4);
        due("tell(1)", x.tell(1), 4);
        due("heard each time", x.count(11), 3);
        due("told", x.law(0, 0), 3);
        due("tell(5)", x.tell(5), -1);
        due("tell(-1)", x.tell(-1), -1);
        due("count(13)", x.count(13), 3);
        // 'own p' is worked out by the worlds left ahead of it: it is told where it is so.
        HatRoom y = room("colour r 1;colour w 2;person p w;person q r;sees p q;sees q p;fact f own p;");
        due("p sees the only red", y.own(0), 1);
        due("tell(0)", y.tell(0), 1);
    }

    private static void askingByCall() {
        promise = 16;
        HatRoom x = room(WISE + "law prize 100*hour+10*said+left;");
        due("ask()", x.ask(), 0);
        due("left", x.count(7), 4);
        due("ask()", x.ask(), 0);
        due("left", x.count(7), 1);
        due("ask()", x.ask(), 7);
        due("prize a", x.person(0, 3), 1);
        due("prize b", x.person(1, 3), 11);
        due("prize c", x.person(2, 3), 21);
        due("those who SAID so ahead, too", x.ask(), 7);
        due("only once", x.count(10), 33);
        String knower = "colour r 1;colour w 2;person p w;person q r;sees p q;";
        HatRoom shy = room(knower + "shy 50;");
        due("50 is hushed", shy.ask(), 0);
        due("nothing comes of it", shy.count(7), 3);
        HatRoom bold = room(knower + "shy 49;");
        due("49 is not", bold.ask(), 1);
        due("only what he says", bold.count(7), 1);
        // He doesn't know, and his silence tells only if he is never shy.
        String silent = "colour r 1;colour w 2;person p w;person q w;sees p q;";
        HatRoom never = room(silent);
        due("ask()", never.ask(), 0);
        due("wr is gone", never.count(7), 2);
        HatRoom some = room(silent + "shy 1;");
        due("ask()", some.ask(), 0);
        due("nothing is gone", some.count(7), 3);
        due("clamped hush", room(knower + "law hush 1000;").ask(), 0);
        due("clamped hush", room(knower + "shy 100;law hush 0-1;").ask(), 1);
        due("hush with an ERROR", room(knower + "shy 100;law hush 1/0;").ask(), 0);
        due("hush with an ERROR", room(knower + "law hush 1/0;").ask(), 1);
        due("prize with an ERROR", prize(knower + "law prize 1/0;"), 10);
        due("prize without", prize(knower), 10);
        due("prize above", prize(knower + "law prize 1000;"), 999);
        due("prize below", prize(knower + "law prize 0-1;"), 0);
        due("nobody", new HatRoom().ask(), 0);
        // What was worked out of facts ahead of asking has no part in how many KNOW.
        due("knew", prize(knower + "fact f not (not (not (not (not (not (not (not own q)))))));tell f 0;law prize knew;"), 1);
        HatRoom heard = room(knower + "fact f own p or not (not (not (own p and own p and own p or own p)));law prize knew;");
        heard.tell(0);
        heard.ask();
        due("knew", heard.person(0, 3), 1);
        // The second one hears the first one in the same asking: said is 1 for him.
        HatRoom turn = room("colour r 2;person p r;person q r;law hush said*100;");
        due("ask()", turn.ask(), 1);
        due("ask()", turn.ask(), 0);
        due("count(9)", turn.count(9), 1);
    }

    private static int prize(String text) {
        HatRoom x = room(text);
        x.ask();
        return x.person(0, 3);
    }

    private static void peeping() {
        promise = 17;
        HatRoom x = room("colour r 2;colour w 2;person p w;person q r;person s r;fact f common (hat q r or not hat q r);"
                + "fact k knows p hat q r;");
        due("alike", x.person(0, 5), 6);
        due("peep(0, 1)", x.peep(0, 1), 3);
        due("sees", x.person(0, 1), 2);
        due("left", x.count(7), 6);
        due("is(1)", x.is(1), 1);
        due("peep(0, 1)", x.peep(0, 1), -2);
        due("peep(0, 2)", x.peep(0, 2), 1);
        due("own(0)", x.own(0), 1);
        due("peep(0, 0)", x.peep(0, 0), -1);
        due("peep(0, 3)", x.peep(0, 3), -1);
        due("peep(3, 0)", x.peep(3, 0), -1);
        due("peep(-1, 0)", x.peep(-1, 0), -1);
        due("count(13)", x.count(13), 2);
        x.undo();
        due("sees", x.person(0, 1), 2);
        due("alike", x.person(0, 5), 3);
        // All know that he sees it: his saying so takes away what the peep tells.
        x.peep(0, 2);
        due("ask()", x.ask(), 1);
        due("left", x.count(7), 2);
    }

    /** "Behind 9800" is asked of the hour that it would be. */
    private static void lastHour() {
        HatRoom x = new HatRoom();
        for (int i = 1; i <= 48; i++) {
            due("go(200)", x.go(200), 200 * i);
        }
        due("go(1)", x.go(1), 9601);
        x.ask();
        due("to 9801", x.go(200), -1);
        due("none goes by", x.count(6), 9601);
        due("what can be undone stays", x.count(13), 1);
        due("to 9800", x.go(199), 9800);
        due("nothing to undo then", x.count(13), 0);
        due("to 9801", x.go(1), -1);
        due("to 10000", x.go(200), -1);
        due("at 9800 none goes by", x.go(0), 9800);
        due("ahead(200, 0, 0)", x.ahead(200, 0, 0), 1);
        due("tried(0, 0, 200)", x.tried(0, 0, 200), 1);
        due("count(6)", x.count(6), 9800);
    }

    private static void going() {
        promise = 18;
        HatRoom x = room(WISE + "tell one 1;tell no 1;tell no 1;ask 0;ask 1;ask 1;ask 99;");
        due("go(0)", x.go(0), 0);
        due("go(1)", x.go(1), 1);
        due("left", x.count(7), 4);
        due("go(1)", x.go(1), 2);
        due("left", x.count(7), 1);
        due("lies", x.count(12), 2);
        due("heard", x.count(11), 1);
        due("said", x.count(9), 3);
        due("go(201)", x.go(201), -1);
        due("go(-1)", x.go(-1), -1);
        due("hour", x.count(6), 2);
        lastHour();
        // Numbers from the seed on: 1 gives 16838, 5758, 10113, 17515: modulo 100: 38, 58, 13, 15.
        String two = "colour r 2;person p r;person q r;ask 0;ask 0;seed 1;";
        due("seed 1, shy 39", said(two + "shy 39;", 1), 2);
        due("seed 1, shy 38", said(two + "shy 38;", 1), 3);
        HatRoom z = room("colour r 2;person p r;person q r;ask 0;seed 1;shy 50;law prize said+5;");
        z.go(1);
        due("38 is below 50", z.person(0, 2), 0);
        due("58 isn't", z.person(1, 2), 1);
        due("prize", z.person(1, 3), 5);
        // No number for E 0 or 100: the first number is the second one's.
        HatRoom w = room("colour r 2;person p r;person q r;ask 0;seed 1;law hush (said=0)*100+38*(said>0);");
        w.go(1);
        due("100 for both", w.count(9), 0);
        HatRoom v = room("colour r 2;person p r;person q r;sees q p;ask 0;ask 1;seed 1;law hush 38*seen;");
        v.go(1);
        due("38 isn't below 38", v.count(9), 2);
        HatRoom u = room("colour r 2;person p r;person q r;sees q p;ask 0;ask 1;ask 1;seed 1;law hush 39*seen;");
        u.go(1);
        due("38 is below 39", u.count(9), 1);
        u.go(1);
        due("58 isn't: the numbers go on", u.count(9), 2);
        HatRoom t = room("colour r 2;person p r;person q r;sees q p;ask 0;seed 1;law hush 100-61*seen;");
        t.go(1);
        due("no number for 100: 38 is below 39", t.count(9), 0);
        HatRoom s = room("colour r 2;colour w 1;person p r;person q r;sees q p;ask 0;seed 1;shy 39;");
        s.tell(0);
        s.go(1);
        due("no number for who doesn't know", s.count(9), 0);
        HatRoom gone = room(WISE);
        gone.tell(0);
        gone.go(0);
        due("no hour went by", gone.count(13), 1);
        gone.go(1);
        due("an hour went by", gone.count(13), 0);
        due("undo()", gone.undo(), -1);
    }

    private static int said(String text, int hours) {
        HatRoom x = room(text);
        x.go(hours);
        return x.person(0, 2) + 2 * x.person(1, 2);
    }

    private static void lookingAhead() {
        promise = 19;
        HatRoom x = room(WISE + THRICE + "tell no 1;tell two 3;law prize hour*10+said;");
        int[][] due = {{7, 0, 0, 0}, {4, 0, 0, 0}, {1, 3, 0, 1}, {1, 3, 3, 1}, {1, 3, 3, 1}};
        for (int n = 0; n < due.length; n++) {
            due("ahead(" + n + ", 0, 9)", x.ahead(n, 0, 9), due[n][0]);
            due("ahead(" + n + ", 1, 9)", x.ahead(n, 1, 9), due[n][1]);
            due("ahead(" + n + ", 2, 9)", x.ahead(n, 2, 9), due[n][2]);
            due("ahead(" + n + ", 4, 9)", x.ahead(n, 4, 9), due[n][3]);
        }
        due("ahead(3, 3, 2)", x.ahead(3, 3, 2), 22);
        due("ahead(2, 3, 2)", x.ahead(2, 3, 2), 0);
        due("ahead(200, 0, 0)", x.ahead(200, 0, 0), 1);
        due("ahead(201, 0, 0)", x.ahead(201, 0, 0), -1);
        due("ahead(-1, 0, 0)", x.ahead(-1, 0, 0), -1);
        due("ahead(1, 3, 3)", x.ahead(1, 3, 3), -1);
        due("ahead(1, 5, 0)", x.ahead(1, 5, 0), -1);
        due("ahead(1, -1, 0)", x.ahead(1, -1, 0), -1);
        due("nothing changes", x.count(6) + x.count(7) + x.count(12), 7);
        x.go(2);
        due("LIES more", x.ahead(5, 4, 0), 0);
        promise = 20;
        HatRoom y = room(WISE + THRICE);
        due("willKnow(0)", y.willKnow(0), 2);
        y.go(1);
        due("willKnow(0)", y.willKnow(0), 1);
        y.go(1);
        due("willKnow(0)", y.willKnow(0), 0);
        due("willKnow(3)", y.willKnow(3), -1);
        due("willKnow(-1)", y.willKnow(-1), -1);
        due("willKnow(0)", room(WISE + "ask 0;").willKnow(0), -2);
        due("willKnow(0)", room(WISE + "ask 98;ask 99;").willKnow(0), 100);
        // As it goes there are no numbers: 49 says it, 50 doesn't.
        String hears = "colour r 1;colour w 2;person p w;person q r;sees p q;sees q p;ask 3;";
        due("49", room(hears + "shy 49;").willKnow(1), 4);
        due("50", room(hears + "shy 50;").willKnow(1), -2);
    }

    private static void partsAndRounds() {
        promise = 21;
        due("parts()", room(WISE).parts(), 1);
        HatRoom x = room("colour r 2;colour w 2;person a r;person b r;person c w;sees a b c;sees b a c;sees c a b;");
        // rrw rwr rww wrr wrw wwr: a ring, each world and the next one differ in one hat.
        due("parts()", x.parts(), 1);
        HatRoom y = room("colour r 2;colour w 2;person a r;person b w;sees a b;sees b a;fact same hat a r and hat b r or"
                + " hat a w and hat b w;fact other not as same;");
        due("parts()", y.parts(), 1);
        y.tell(1);
        due("parts()", y.parts(), 2);
        HatRoom z = room("colour r 2;colour w 2;person a r;person b w;person c r;sees a b c;sees b a c;");
        due("c sees nobody", z.parts(), 1);
        promise = 22;
        HatRoom w = room(WISE);
        due("rounds(0)", w.rounds(0), 2);
        due("rounds(1)", w.rounds(1), 7);
        due("rounds(2)", w.rounds(2), 1);
        due("rounds(3)", w.rounds(3), -1);
        due("rounds(-1)", w.rounds(-1), -1);
        w.ask();
        due("rounds(0)", w.rounds(0), 1);
        HatRoom v = room(WISE + "shy 100;law hush 100;");
        due("nobody shy", v.rounds(0), 2);
        due("nothing changes", v.count(7), 7);
        HatRoom u = room("colour r 6;colour w 6;person a r;person b r;sees a b;sees b a;");
        due("rounds(0)", u.rounds(0), 0);
        due("rounds(1)", u.rounds(1), 0);
        due("rounds(2)", u.rounds(2), 4);
    }

    private static void teaching() {
        promise = 23;
        HatRoom x = room("colour r 2;colour w 2;person a r;person b w;person c r;fact x hat a r;fact y hat b w;"
                + "fact z not hat a w;fact l hat a w;fact d hat b w and hat c r;fact e many r 2 and hat b w;");
        due("teach(0)", x.teach(0), 1);
        due("teach(1)", x.teach(1), 2);
        due("teach(2)", x.teach(2), 16);
        due("teach(3)", x.teach(3), -1);
        due("teach(-1)", x.teach(-1), -1);
        promise = 24;
        due("teachAll()", x.teachAll(), 32);
        promise = 23;
        x.tell(0);
        due("he knows", x.teach(0), 0);
        HatRoom y = room("colour r 2;colour w 2;person a r;person b w;person c r;fact x hat a r or hat b w;"
                + "fact y hat a r or hat b r;fact z many r 2;fact l hat a w;");
        due("two facts", y.teach(0), 3);
        promise = 24;
        due("many r 2 leaves rrw, rwr, wrr", y.teachAll(), -2);
        promise = 23;
        due("by none", room("colour r 2;colour w 2;person a r;fact x many r 0;fact l hat a w;").teach(0), -2);
        HatRoom z = room("colour r 2;colour w 2;person a r;person b r;fact h many r 2;");
        z.tell(0);
        due("heard", z.teach(0), 0);
        String eight = "colour r 2;colour w 2;person a r;person b r;";
        for (char c = 'a'; c <= 'h'; c++) {
            eight += "fact " + c + " many r 1;";
        }
        due("eight facts of no use", room(eight).teach(0), -2);
        promise = 24;
        due("all know", z.teachAll(), 0);
        due("without facts", room("colour r 2;colour w 2;person a r;").teachAll(), -2);
    }

    private static void lookingAndGuessing() {
        promise = 25;
        HatRoom x = room("colour r 3;colour b 1;colour w 1;person p r;person q b;person s r;sees p q;sees s p q;");
        // p sees b of q: alike rrr.. rbr rbw wbr are left of p, s: r r, r w, w r.
        due("alike", x.person(0, 5), 3);
        due("look(0, 0)", x.look(0, 0), 2);
        due("look(0, 1)", x.look(0, 1), 2);
        due("look(2, 0)", x.look(2, 0), -2);
        due("look(2, 1)", x.look(2, 1), -2);
        due("look(2, 2)", x.look(2, 2), -1);
        due("look(0, -1)", x.look(0, -1), -1);
        due("look(3, 0)", x.look(3, 0), -1);
        due("look(1, 0): the first of several", x.look(1, 0), 0);
        due("alone", room("colour r 1;person p r;").look(0, 0), -2);
        HatRoom y = room("colour r 3;colour w 3;person p r;person q r;person s r;fact q hat q r or hat s r and hat p r;");
        y.tell(0);
        // rrr rrw rwr wrr wrw: q is red in four of five, s in three.
        due("look(0, 0)", y.look(0, 0), 2);
        due("look(0, 1)", y.look(0, 1), 3);
        promise = 26;
        HatRoom z = room("colour r 3;colour b 1;colour w 1;person p r;person q b;sees p q;");
        due("guess(1, 0)", z.guess(1, 0), 0);
        due("guess(1, 1)", z.guess(1, 1), 3);
        due("guess(1, 2)", z.guess(1, 2), 7);
        due("guess(0, 0)", z.guess(0, 0), 0);
        due("guess(0, 1)", z.guess(0, 1), 1);
        due("guess(0, 2)", z.guess(0, 2), 2);
        due("guess(0, 3)", z.guess(0, 3), -1);
        due("guess(0, -1)", z.guess(0, -1), -1);
        due("guess(2, 0)", z.guess(2, 0), -1);
        due("a later colour", room("colour b 1;colour r 3;person p r;person q b;").guess(0, 0), 1);
        due("all of them", room("colour b 1;person p b;").guess(0, 2), 1);
        promise = 27;
        HatRoom w = room(WISE);
        due("likely(0, 0)", w.likely(0, 0), 1);
        due("likely(0, 1)", w.likely(0, 1), 1);
        due("likely(1, 0)", w.likely(1, 0), 4);
        due("likely(1, 1)", w.likely(1, 1), 7);
        due("likely(2, 0)", w.likely(2, 0), 1);
        due("likely(2, 1)", w.likely(2, 1), 7);
        due("likely(1, 2)", w.likely(1, 2), -1);
        due("likely(1, -1)", w.likely(1, -1), -1);
        due("likely(5, 0)", w.likely(5, 0), -1);
        HatRoom v = room("colour r 2;colour w 2;person p r;fact n many r 2;fact h hat p r;");
        due("never", v.likely(0, 0), 0);
        due("never", v.likely(0, 1), 1);
        due("half", v.likely(1, 1), 2);
        promise = 28;
        due("secret(0, 1)", z.secret(0, 1), 1);
        due("secret(1, 0)", z.secret(1, 0), 0);
        due("secret(0, 0)", z.secret(0, 0), -1);
        due("secret(0, 2)", z.secret(0, 2), -1);
        due("secret(2, 0)", z.secret(2, 0), -1);
    }

    private static void speaking() {
        promise = 29;
        // Each has 7 by both speaking, 10 alone, 4 by waiting alone, 2 by both waiting: both speak.
        HatRoom x = room(WISE);
        due("rests(0, 1)", x.rests(0, 1), 1);
        due("rests(0, 0)", x.rests(0, 0), -1);
        due("rests(0, 3)", x.rests(0, 3), -1);
        due("rests(-1, 0)", x.rests(-1, 0), -1);
        // Seven worlds, nobody sees anybody: 2 both, 5 alone, 2 waiting alone, 0 both wait: three rests.
        HatRoom y = room("colour r 3;colour b 1;colour w 1;person p r;person q b;");
        due("rests(0, 1)", y.rests(0, 1), 3);
        promise = 30;
        due("rest(0, 1, 0)", x.rest(0, 1, 0), 0);
        due("rest(0, 1, 1)", x.rest(0, 1, 1), -2);
        due("rest(0, 1, -1)", x.rest(0, 1, -1), -1);
        due("rest(1, 1, 0)", x.rest(1, 1, 0), -1);
        due("rest(3, 1, 0)", x.rest(3, 1, 0), -1);
        due("rest(0, 1, 0)", y.rest(0, 1, 0), 0);
        due("rest(0, 1, 1)", y.rest(0, 1, 1), 1);
        due("rest(0, 1, 2)", y.rest(0, 1, 2), 10);
        due("rest(0, 1, 3)", y.rest(0, 1, 3), -2);
        // Nine are alike for p, who sees one: speaks 0 or alone 3, waits alone 3 or both 1. q: 0, 0, 2, 0.
        HatRoom z = room("colour a 6;colour b 6;colour c 6;person p a;person q a;person s a;sees p q;");
        promise = 29;
        due("rests(0, 1)", z.rests(0, 1), 2);
        promise = 30;
        due("rest(0, 1, 0)", z.rest(0, 1, 0), 1);
        due("rest(0, 1, 1)", z.rest(0, 1, 1), 10);
        due("rest(1, 0, 0)", z.rest(1, 0, 0), 1);
        due("rest(1, 0, 2)", z.rest(1, 0, 2), -2);
    }

    private static void chances() {
        promise = 31;
        // Numbers from 1 on, modulo 100: 38 58 13 15 51 27 10 19 12 86: three are 50 or more.
        String one = "colour r 1;person p r;ask 0;shy ";
        due("shy 50", room(one + "50;").chance(1, 1, 0), 3);
        due("shy 13", room(one + "13;").chance(1, 1, 0), 8);
        due("shy 0", room(one + "0;").chance(1, 1, 0), 10);
        due("shy 100", room(one + "100;").chance(1, 1, 0), 0);
        HatRoom x = room(one + "50;seed 7;");
        due("chance(-1, 1, 0)", x.chance(-1, 1, 0), -1);
        due("chance(1, 0, 0)", x.chance(1, 0, 0), -1);
        due("chance(1, 100, 0)", x.chance(1, 100, 0), -1);
        due("chance(1, 1, 1)", x.chance(1, 1, 1), -1);
        due("chance(1, 99, 0)", x.chance(1, 99, 0), 3);
        due("nothing changes", x.count(6) + x.count(9), 0);
        due("the hour of asking is by", room("colour r 1;person p r;ask 1;").chance(2147483647, 1, 0), 0);
        due("it isn't", room("colour r 1;person p r;ask 1;").chance(2147483647, 2, 0), 10);
        HatRoom y = room("colour r 1;person p r;shy 49;");
        y.ask();
        due("he SAID so", y.chance(0, 1, 0), 10);
    }

    private static void trying() {
        promise = 32;
        HatRoom x = room(WISE + THRICE + "shy 60;tell two 0;");
        due("as it goes", x.ahead(3, 0, 0), 4);
        // two leaves rrr rrw rwr wrr; then in three of them somebody knows.
        due("tried(0, 0, 3)", x.tried(0, 0, 3), 1);
        due("tried(1, 0, 3)", x.tried(1, 0, 3), 4);
        due("tried(3, 0, 3)", x.tried(3, 0, 3), 7);
        due("tried(4, 0, 3)", x.tried(4, 0, 3), 4);
        due("tried(0, 0, 0)", x.tried(0, 0, 0), 7);
        due("tried(0, 1, 0)", x.tried(0, 1, 0), -1);
        due("tried(4, -1, 0)", x.tried(4, -1, 0), -1);
        due("tried(5, 0, 0)", x.tried(5, 0, 0), -1);
        due("tried(-1, 0, 0)", x.tried(-1, 0, 0), -1);
        due("tried(0, 0, 201)", x.tried(0, 0, 201), -1);
        due("tried(0, 0, -1)", x.tried(0, 0, -1), -1);
        due("tried(2, 3, 0)", x.tried(2, 3, 0), -1);
        due("tried(2, 2, 200)", x.tried(2, 2, 200), 4);
        due("nothing changes", x.count(7), 7);
        // p sees that q is red and knows; q knows nothing, so he is heard by nobody.
        String knower = "colour r 1;colour w 2;person p w;person q r;sees p q;ask 0;";
        due("p says it", room(knower).ahead(1, 0, 0), 1);
        due("p never says it", room(knower).tried(2, 0, 1), 3);
        due("q never says it", room(knower).tried(2, 1, 1), 1);
        due("nobody says it", room(knower).tried(1, 0, 1), 3);
        String blind = "colour r 1;colour w 2;person p w;person q w;ask 0;law prize seen;";
        due("nobody sees", room(blind).ahead(1, 0, 0), 3);
        due("each sees", room(blind).tried(4, 0, 1), 1);
    }

    private static void undoingAndImages() {
        promise = 33;
        HatRoom x = room(WISE + THRICE + "tell no 5;seed 1;law hush 60*(hour=7);");
        due("undo()", x.undo(), -1);
        x.tell(1);
        x.ask();
        x.peep(0, 1);
        due("the peep was none", x.count(13), 2);
        x.ask();
        due("said", x.count(9), 3);
        due("prizes", x.count(10), 30);
        due("undo()", x.undo(), 2);
        due("said", x.count(9), 0);
        due("prizes", x.count(10), 0);
        due("undo()", x.undo(), 1);
        due("left", x.count(7), 4);
        due("undo()", x.undo(), 0);
        due("left", x.count(7), 7);
        due("heard", x.count(11), 0);
        due("undo()", x.undo(), -1);
        for (int i = 1; i <= 25; i++) {
            x.tell(0);
            due("count(13)", x.count(13), Math.min(i, 20));
        }
        for (int i = 19; i >= 0; i--) {
            due("undo()", x.undo(), i);
        }
        due("undo()", x.undo(), -1);
        due("five stay", x.count(11), 5);
        promise = 34;
        due("keep()", x.keep(), 0);
        x.go(6);
        due("lies", x.count(12), 1);
        promise = 35;
        due("back()", x.back(), 0);
        due("lies", x.count(12), 0);
        due("heard", x.count(11), 5);
        due("said", x.count(9), 0);
        due("left", x.count(7), 7);
        x.tell(1);
        due("back()", x.back(), 0);
        due("nothing to undo then", x.undo(), -1);
        due("left", x.count(7), 7);
        x.go(3);
        promise = 34;
        due("in place of one ahead", x.keep(), 3);
        x.go(10);
        promise = 35;
        due("back()", x.back(), 3);
        due("back() again", x.back(), 3);
        due("said", x.count(9), 3);
        due("none", new HatRoom().back(), -1);
        HatRoom y = room("colour r 1;colour w 1;person p r;person q w;");
        y.keep();
        y.peep(0, 1);
        due("back()", y.back(), 0);
        due("sees", y.person(0, 1), 0);
        // The row of numbers goes back, too: 38 is hushed, 58 isn't.
        HatRoom z = room("colour r 1;person p r;ask 0;ask 1;seed 1;shy 50;");
        z.keep();
        z.go(1);
        due("38", z.count(9), 0);
        z.back();
        z.go(1);
        due("38 again", z.count(9), 0);
        z.go(1);
        due("58", z.count(9), 1);
    }

    private static void counting() {
        promise = 36;
        HatRoom x = room(WISE + THRICE + "tell two 0;tell no 1;");
        int[] at0 = {2, 3, 5, 2, 3, 7, 0, 7, 0, 0, 0, 0, 0, 0};
        for (int what = 0; what < at0.length; what++) {
            due("count(" + what + ")", x.count(what), at0[what]);
        }
        x.go(2);
        x.tell(0);
        int[] at2 = {2, 3, 5, 2, 3, 7, 2, 1, 3, 3, 30, 2, 1, 1};
        for (int what = 0; what < at2.length; what++) {
            due("count(" + what + ")", x.count(what), at2[what]);
        }
        due("count(14)", x.count(14), -1);
        due("count(-1)", x.count(-1), -1);
    }

    public static void main(String[] args) {
        aNewObject();
        feeding();
        reading();
        readingAgain();
        faultsOfTokens();
        faultsOfFormulas();
        faultsOfLines();
        names();
        people();
        ownHatsAndWorlds();
        factsNow();
        laws();
        tellingByCall();
        askingByCall();
        peeping();
        going();
        lookingAhead();
        partsAndRounds();
        teaching();
        lookingAndGuessing();
        speaking();
        chances();
        trying();
        undoingAndImages();
        counting();
        finish(checks + " checks of promises 1 to 36");
    }
}
