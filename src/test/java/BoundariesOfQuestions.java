/**
 * The boundaries that the document names in what is asked, tried, undone and kept: its parts 3 and 4 and
 * promises 19 to 36. Each sentence has a test of its own.
 */
public final class BoundariesOfQuestions extends Checks {
    private static final int MAX = Integer.MAX_VALUE;
    private static final int MIN = Integer.MIN_VALUE;
    private static final int[] NO_NUMBERS = {-1, -2, 6, 7, 8, 64, MAX, MIN};

    /** Worlds rw wr ww, the second one true: p sees the only red and knows, q sees nobody and doesn't. */
    private static final String KNOWER = "colour r 1;colour w 2;person p w;person q r;sees p q;";
    /** The same worlds, ww true: nobody knows; p would, if q had red. */
    private static final String SILENT = "colour r 1;colour w 2;person p w;person q w;sees p q;";
    /** Seven worlds: asked once four are left, asked twice one. */
    private static final String WISE = "colour red 3;colour white 2;person a red;person b red;person c red;"
            + "sees a b c;sees b a c;sees c a b;";
    private static final String ONE = "colour r 1;person p r;";
    /** Three people of two colours who see nobody: eight worlds. */
    private static final String EIGHT = "colour r 6;colour w 6;person p r;person s r;person t r;";

    // Ahead.

    private static void aheadHours() {
        sentence(19, "AHEAD (n 0 .. 200)");
        HatRoom x = room(WISE + "ask 0;ask 1;");
        due("ahead(0, 0, 0)", x.ahead(0, 0, 0), 7);
        due("ahead(1, 0, 0)", x.ahead(1, 0, 0), 4);
        due("ahead(2, 0, 0)", x.ahead(2, 0, 0), 1);
        due("ahead(200, 0, 0)", x.ahead(200, 0, 0), 1);
        for (int n : new int[] {201, MAX, -1, MIN}) {
            for (int what = 0; what <= 4; what++) {
                due("ahead(" + n + ", " + what + ", 0)", x.ahead(n, what, 0), -1);
            }
        }
        due("none goes by", x.count(6), 0);
        due("left", x.count(7), 7);
        HatRoom y = room(WISE + "ask 99;");
        due("ahead(99, 0, 0)", y.ahead(99, 0, 0), 7);
        due("ahead(100, 0, 0)", y.ahead(100, 0, 0), 4);
    }

    private static void aheadOfWhom() {
        sentence(19, "(of all but 3 the PERSON isn't looked at). NONE: no such ones");
        HatRoom x = room(ONE + "fact lie not own p;tell lie 0;ask 0;law prize 7;");
        int[] due = {1, 1, 1, 7, 1};
        for (int person : new int[] {0, 1, -1, 6, MAX, MIN}) {
            for (int what = 0; what <= 4; what++) {
                due("ahead(1, " + what + ", " + person + ")", x.ahead(1, what, person), what == 3 && person != 0 ? -1 : due[what]);
            }
            for (int what : new int[] {5, 6, -1, MAX, MIN}) {
                due("ahead(1, " + what + ", " + person + ")", x.ahead(1, what, person), -1);
            }
        }
        due("nobody there", new HatRoom().ahead(0, 3, 0), -1);
        due("nobody there", new HatRoom().ahead(0, 0, 0), 1);
    }

    private static void liesMore() {
        sentence(19, "PRIZES of a PERSON then, LIES more");
        HatRoom x = room(ONE + "fact lie not own p;tell lie 0;tell lie 1;tell lie 1;ask 0;");
        due("ahead(2, 4, 0)", x.ahead(2, 4, 0), 3);
        due("ahead(1, 3, 0)", x.ahead(1, 3, 0), 10);
        x.go(1);
        due("one so far", x.count(12), 1);
        due("ahead(0, 4, 0)", x.ahead(0, 4, 0), 0);
        due("ahead(1, 4, 0)", x.ahead(1, 4, 0), 2);
        due("those so far, too", x.ahead(0, 3, 0), 10);
    }

    private static void willKnowInHours() {
        sentence(20, "in how many HOURS as it goes, 199 at most, he KNOWS (0: now)");
        HatRoom x = room(KNOWER + "ask 99;");
        due("willKnow(0)", x.willKnow(0), 0);
        due("willKnow(1)", x.willKnow(1), 100);
        x.go(99);
        due("willKnow(1)", x.willKnow(1), 1);
        x.go(1);
        due("willKnow(1)", x.willKnow(1), 0);
        due("in the first hour", room(KNOWER + "ask 0;").willKnow(1), 1);
        // The first number of seed 0 is 0, of seed 5 it is 55: as it goes there are none.
        due("49 says so", room(KNOWER + "ask 0;shy 49;").willKnow(1), 1);
        due("50 doesn't", room(KNOWER + "ask 0;shy 50;seed 5;").willKnow(1), -2);
    }

    private static void willNeverKnow() {
        sentence(20, "-2: not by then; NONE: no such PERSON");
        HatRoom x = room(KNOWER + "ask 99;shy 50;");
        due("willKnow(1)", x.willKnow(1), -2);
        due("willKnow(2)", x.willKnow(2), -1);
        for (int person : NO_NUMBERS) {
            due("willKnow(" + person + ")", x.willKnow(person), -1);
        }
        HatRoom y = room(KNOWER + "ask 0;shy 100;");
        y.go(200);
        due("willKnow(1)", y.willKnow(1), -2);
        due("nobody there", new HatRoom().willKnow(0), -1);
    }

    // How deep, in how many parts, in how many rounds.

    private static void depthOfAFact() {
        sentence(13, "20 at most (0: it is so itself, but not by all once)");
        // From rrr one step of doubt leads to two reds, two to one red, three to none.
        String three = "colour r 6;colour w 6;person p r;person s r;person t r;sees p s t;sees s p t;sees t p s;";
        HatRoom x = room(three + "fact a many r 3;fact b many r 2;fact c many r 1;fact d many r 0;");
        for (int fact = 0; fact < 4; fact++) {
            due("depth(" + fact + ")", x.depth(fact), fact == 3 ? 20 : fact);
        }
        x.tell(2);
        due("told", x.depth(2), 20);
        due("nobody there", room("colour r 1;fact f many r 0;").depth(0), 20);
    }

    private static void depthOfALie() {
        sentence(13, "DEPTH; -2: it isn't so; NONE: no such FACT");
        HatRoom x = room(KNOWER + "fact f hat p r;fact g hat p w;");
        due("depth(0)", x.depth(0), -2);
        due("depth(1)", x.depth(1), 0);
        due("depth(2)", x.depth(2), -1);
        for (int fact : NO_NUMBERS) {
            due("depth(" + fact + ")", x.depth(fact), -1);
        }
        due("nobody there, not so", room("colour r 1;fact f many r 1;").depth(0), -2);
    }

    private static void partsOfWorlds() {
        sentence(21, "PARTS: sets of WORLDS LEFT that hang together by ALIKE of some PERSON");
        due("nobody there", new HatRoom().parts(), 1);
        due("all hang together", room(WISE).parts(), 1);
        due("by one who sees nobody", room("colour a 6;colour b 6;colour c 6;person p a;person q a;person s a;person t a;"
                + "person u a;person v a;sees p q s t u v;").parts(), 1);
        HatRoom x = room("colour r 6;colour w 6;person p r;person q r;sees p q;sees q p;fact same hat p r and hat q r or"
                + " hat p w and hat q w;");
        due("rr rw wr ww", x.parts(), 1);
        x.tell(0);
        due("rr, ww", x.parts(), 2);
        HatRoom y = room("colour r 6;colour w 6;person p r;person q r;person s r;sees p q s;sees q p s;sees s p q;"
                + "fact odd many r 3 or many w 2 and not many w 3;");
        y.tell(0);
        due("each by itself", y.parts(), 4);
    }

    private static void roundsNotCounted() {
        sentence(22, "(that time isn't counted; 0: it doesn't at once)");
        HatRoom x = room(WISE + "shy 100;law hush 100;");
        x.ahead(1, 0, 0);
        due("rounds(0)", x.rounds(0), 2);
        x.tried(1, 0, 1);
        due("rounds(1)", x.rounds(1), 7);
        x.tried(2, 0, 1);
        due("rounds(2)", x.rounds(2), 1);
        due("nobody there", new HatRoom().rounds(0), 0);
        due("one world", room(ONE).rounds(0), 0);
        due("one world, he knows", room(ONE).rounds(1), 1);
        HatRoom y = room(EIGHT);
        due("nothing to be known", y.rounds(0), 0);
        due("nobody knows", y.rounds(1), 0);
        due("all stay", y.rounds(2), 8);
        due("it changes once", room(KNOWER).rounds(0), 1);
        due("nothing changes", x.count(7) + x.count(9), 7);
        // The muddy children: of six who see a red one at least, the six know behind five times of silence.
        HatRoom six = room("colour r 6;colour w 5;person a r;person b r;person c r;person d r;person e r;person f r;"
                + "sees a b c d e f;sees b a c d e f;sees c a b d e f;sees d a b c e f;sees e a b c d f;sees f a b c d e;");
        due("six", six.rounds(0), 5);
        due("six", six.rounds(1), 63);
    }

    private static void roundsOfAnotherWhat() {
        sentence(22, "2: how many are LEFT then. NONE for another what");
        HatRoom x = room(WISE);
        for (int what : new int[] {3, -1, MAX, MIN}) {
            due("rounds(" + what + ")", x.rounds(what), -1);
        }
    }

    // What teaches, whom to look at, what to guess.

    private static String killers() {
        StringBuilder b = new StringBuilder("colour r 4;colour w 4;person p r;person s r;person t r;person u r;");
        for (int i = 0; i < 8; i++) {
            b.append("fact ").append((char) ('a' + i)).append(" not(hat p w and hat s ").append((i & 4) == 0 ? 'r' : 'w')
                    .append(" and hat t ").append((i & 2) == 0 ? 'r' : 'w')
                    .append(" and hat u ").append((i & 1) == 0 ? 'r' : 'w').append(");");
        }
        return b.toString();
    }

    private static void fewestFacts() {
        sentence(23, "the fewest FACTS (bits; those HEARD, too)");
        // Each of eight facts bars one of the eight worlds in which p is white.
        HatRoom x = room(killers());
        due("all eight", x.teach(0), 255);
        x.tell(7);
        due("seven", x.teach(0), 127);
        HatRoom y = room(EIGHT + "fact a hat p r or hat s w;fact b hat p r or hat s r;fact c hat p r;");
        due("one, not two of less bits", y.teach(0), 4);
        y.tell(0);
        due("behind the first one", y.teach(0), 2);
        HatRoom z = room(EIGHT + "fact h hat p r or hat s w;fact i hat s r;");
        z.tell(0);
        due("h is heard, and bars nothing more", z.teach(0), 2);
    }

    private static void leastBits() {
        sentence(23, "of several the least bits");
        HatRoom x = room(EIGHT + "fact z many r 0;fact a hat p r;fact b hat p r;");
        due("of two facts the first", x.teach(0), 2);
        HatRoom y = room(EIGHT + "fact a hat p r or hat s w;fact b hat p r or hat t w;fact c hat p r or hat t r;"
                + "fact d hat p r or hat s r;");
        due("b and c, not a and d", y.teach(0), 6);
    }

    private static void taughtByTruthNow() {
        sentence(23, "each so in the TRUE WORLD now, TOLD at once");
        HatRoom x = room(SILENT + "fact n not own p;fact w hat p w;");
        due("n leaves rw ww", x.teach(1), 1);
        x.tell(1);
        due("n isn't so any more", x.teach(1), -2);
        due("a lie teaches nobody", room(EIGHT + "fact f hat p w;").teach(0), -2);
        // One behind the other n would come too late: w makes p know. At once it doesn't.
        HatRoom y = room(SILENT + "fact w hat p w;fact n not own p;");
        due("both at once", y.teachAll(), 3);
    }

    private static void teachNobody() {
        sentence(23, "TEACH (bits; 0: he KNOWS); -2: by none of them; NONE: no such PERSON");
        HatRoom x = room(KNOWER + "fact f many w 1;");
        due("he knows", x.teach(0), 0);
        due("by none", x.teach(1), -2);
        due("teach(2)", x.teach(2), -1);
        for (int person : NO_NUMBERS) {
            due("teach(" + person + ")", x.teach(person), -1);
        }
        due("without facts", room(KNOWER).teach(1), -2);
        due("nobody there", new HatRoom().teach(0), -1);
    }

    private static void teachAllOfThem() {
        sentence(24, "TEACH ALL (bits); -2: by none of them");
        due("nobody there", new HatRoom().teachAll(), 0);
        due("all know", room(ONE + "fact f own p;").teachAll(), 0);
        due("one doesn't", room(KNOWER + "fact f many w 1;").teachAll(), -2);
        due("he is taught", room(KNOWER + "fact f own p;").teachAll(), 1);
        due("without facts", room(KNOWER).teachAll(), -2);
        HatRoom x = room(EIGHT + "fact a hat p r;fact b hat s r;fact c hat t r;fact d hat s r and hat t r;");
        due("two are fewer than three", x.teachAll(), 9);
    }

    private static void lookAtOne() {
        sentence(25, "would leave as few WORLDS as may be ALIKE at worst (for each COLOUR that is possible for him), the first of several");
        due("the first of several", room(EIGHT).look(1, 0), 0);
        due("never himself", room(EIGHT).look(0, 0), 1);
        HatRoom x = room("colour r 6;colour w 6;colour b 6;person p r;person q r;person s r;"
                + "fact f not hat q b and (not hat s b or hat p r);");
        x.tell(0);
        // Of 14 worlds 7 have q in r, 7 in w; 6 have s in r, 6 in w, 2 in b.
        due("left", x.count(7), 14);
        due("at q: 7, at s: 6", x.look(0, 0), 2);
        due("look(0, 1)", x.look(0, 1), 6);
        due("one sees q", x.peep(0, 1), 7);
        due("s alone is left", x.look(0, 0), 2);
        due("at worst 3 of 7", x.look(0, 1), 3);
        due("the last of six", room("colour r 6;colour w 6;person a r;person b r;person c r;person d r;person e r;person f r;"
                + "sees a b c d e;").look(0, 0), 5);
    }

    private static void lookAtNobody() {
        sentence(25, "1: how many are ALIKE then at worst. -2: he SEES all others; NONE: no such ones");
        HatRoom x = room(KNOWER);
        due("look(0, 0)", x.look(0, 0), -2);
        due("look(0, 1)", x.look(0, 1), -2);
        due("alone", room(ONE).look(0, 0), -2);
        due("alone", room(ONE).look(0, 1), -2);
        for (int n : new int[] {2, -1, 6, MAX, MIN}) {
            due("look(" + n + ", 0)", x.look(n, 0), -1);
            due("look(0, " + n + ")", x.look(0, n), -1);
            due("look(1, " + n + ")", x.look(1, n), -1);
        }
        due("look(1, 1)", x.look(1, 1), 2);
    }

    private static void guessTheFirst() {
        sentence(26, "the COLOUR his HAT has in most WORLDS ALIKE, the first of several, and how likely it is, as a fraction");
        due("of two alike the first", room("colour r 6;colour w 6;person p w;").guess(0, 0), 0);
        due("of three alike the first", room("colour a 6;colour b 6;colour c 6;person p c;").guess(0, 0), 0);
        due("the last two", room("colour a 1;colour b 6;colour c 6;person p c;person q c;person s c;").guess(0, 0), 1);
        due("the last one", room("colour a 1;colour b 1;colour c 6;person p a;person q c;").guess(0, 0), 2);
        due("the only one", room("colour a 0;colour b 0;colour c 6;person p c;").guess(0, 0), 2);
    }

    private static void guessInLeastTerms() {
        sentence(26, "GUESS in least terms, what 0: the COLOUR, 1: the number above, 2: the one below. NONE: no such ones");
        HatRoom x = room(EIGHT);
        due("four of eight", x.guess(0, 1), 1);
        due("four of eight", x.guess(0, 2), 2);
        HatRoom y = room(KNOWER);
        due("one of one", y.guess(0, 1), 1);
        due("one of one", y.guess(0, 2), 1);
        due("two of three", y.guess(1, 1), 2);
        due("two of three", y.guess(1, 2), 3);
        for (int n : new int[] {3, -1, 6, MAX, MIN}) {
            due("guess(" + n + ", 0)", y.guess(n, 0), -1);
            due("guess(0, " + n + ")", y.guess(0, n), -1);
        }
        due("guess(2, 0)", y.guess(2, 0), -1);
        due("the most", room("colour a 6;colour b 6;colour c 6;person p a;person q a;person s a;person t a;person u a;"
                + "person v a;").guess(0, 2), 3);
    }

    private static void likelyInLeastTerms() {
        sentence(27, "LIKELY in least terms, what 0: the number above, 1: the one below. NONE: no such ones");
        HatRoom x = room(EIGHT + "fact none many w 4;fact any many w 0;fact two many w 2;fact six not (hat p r and hat s r);");
        int[] above = {0, 1, 1, 3};
        int[] below = {1, 1, 2, 4};
        for (int fact = 0; fact < 4; fact++) {
            due("likely(" + fact + ", 0)", x.likely(fact, 0), above[fact]);
            due("likely(" + fact + ", 1)", x.likely(fact, 1), below[fact]);
        }
        for (int n : new int[] {4, 2, -1, 8, MAX, MIN}) {
            due("likely(" + n + ", 0)", x.likely(n, 0), n == 2 ? 1 : -1);
            due("likely(0, " + n + ")", x.likely(0, n), -1);
        }
        due("nobody there", room("colour r 1;fact f many r 1;").likely(0, 1), 1);
    }

    private static void secretOfNobody() {
        sentence(28, "SECRET (1, 0); NONE: no such PEOPLE, alike");
        HatRoom x = room(KNOWER);
        due("q doesn't know p's", x.secret(0, 1), 1);
        due("p knows q's", x.secret(1, 0), 0);
        due("of one colour alone", room("colour r 6;person p r;person q r;").secret(0, 1), 0);
        due("secret(0, 0)", x.secret(0, 0), -1);
        due("secret(1, 1)", x.secret(1, 1), -1);
        due("secret(2, 2)", x.secret(2, 2), -1);
        for (int n : NO_NUMBERS) {
            due("secret(" + n + ", 0)", x.secret(n, 0), -1);
            due("secret(0, " + n + ")", x.secret(0, n), -1);
        }
    }

    // Two who speak or wait.

    private static void restsWith(int worlds, HatRoom x, int[] due) {
        due("left", x.count(7), worlds);
        due("rests(0, 1) of " + worlds, x.rests(0, 1), due.length);
        for (int k = 0; k < due.length; k++) {
            due("rest(0, 1, " + k + ") of " + worlds, x.rest(0, 1, k), due[k]);
        }
        due("rest(0, 1, " + due.length + ") of " + worlds, x.rest(0, 1, due.length), -2);
    }

    private static void restsOfThoseWhoSeeNobody() {
        sentence(29, "A REST: neither would have more otherwise");
        // Both speak: 9 less the worlds; one alone: 12 less them, the other one 2; both wait: 0.
        restsWith(6, room("colour r 2;colour w 2;person p r;person s r;person t w;"), new int[] {0});
        restsWith(7, room("colour r 3;colour w 2;person p r;person s r;person t w;"), new int[] {0, 1, 10});
        restsWith(8, room(EIGHT), new int[] {1, 10});
        restsWith(11, room("colour r 2;colour w 6;person p r;person q w;person s w;person t w;"), new int[] {1, 10});
    }

    private static void eachByWhatItSees() {
        sentence(29, "both speak: each has 9 less how many are ALIKE for it");
        String two = "colour r 6;colour w 6;person p r;person q r;";
        // Four worlds, two alike for one who sees: both speak 7, one alone 10, the other one 3, both wait 1.
        restsWith(4, room(two + "sees p q;sees q p;"), new int[] {0});
        // Of 27 worlds 9 are alike for p, who sees one: 0, 3, 3, 1; and 27 for q: 0, 0, 2, 0.
        String three = "colour a 6;colour b 6;colour c 6;person p a;person q a;person s a;";
        restsWith(27, room(three + "sees p q;"), new int[] {1, 10});
        // 3 are alike for p, who sees two: both speak 6, alone 9, the other one 4, both wait 2.
        restsWith(27, room(three + "sees p q s;"), new int[] {1});
        restsWith(27, room(three + "sees q p s;"), new int[] {10});
    }

    private static void eachWaits() {
        sentence(30, "both wait: each how many it SEES");
        // Of 81 worlds 9 are alike for one who sees two, speaking alone gives 3; 27 for one who sees one, it gives 0.
        String four = "colour a 6;colour b 6;colour c 6;person p a;person q a;person s a;person t a;";
        restsWith(81, room(four + "sees p s t;sees q s t;"), new int[] {1, 10});
        restsWith(81, room(four + "sees p s t;sees q s;"), new int[] {1});
        restsWith(81, room(four + "sees p s;sees q s t;"), new int[] {10});
        restsWith(81, room(four + "sees p s;sees q s;"), new int[] {11});
    }

    private static void noLessThanNothing() {
        sentence(29, "one speaks alone: it has 12 less that, 0 at least, the other one 2 more than how many it SEES");
        String thirteen = "colour a 1;colour b 1;colour c 3;person p c;person s a;person t b;fact f not many c 3;";
        restsWith(13, room(thirteen), new int[] {1, 10, 11});
        HatRoom x = room(thirteen);
        x.tell(0);
        restsWith(12, x, new int[] {1, 10, 11});
        restsWith(729, room("colour a 6;colour b 6;colour c 6;person p a;person q a;person s a;person t a;person u a;"
                + "person v a;"), new int[] {1, 10, 11});
    }

    private static void restsOfNobody() {
        sentence(29, "How many RESTS SPEAK has; NONE: no such PEOPLE, alike");
        HatRoom x = room(KNOWER);
        // p: 8 by both speaking, 11 alone, 3 by waiting alone, 1 by both waiting; q: 6, 9, 2, 0.
        due("rests(0, 1)", x.rests(0, 1), 1);
        due("rests(0, 0)", x.rests(0, 0), -1);
        due("rests(2, 2)", x.rests(2, 2), -1);
        for (int n : NO_NUMBERS) {
            due("rests(" + n + ", 0)", x.rests(n, 0), -1);
            due("rests(0, " + n + ")", x.rests(0, n), -1);
        }
        due("rests(2, 0)", x.rests(2, 0), -1);
        due("rests(0, 2)", x.rests(0, 2), -1);
    }

    private static void restsInOrder() {
        sentence(30, "RESTS: by the first one's, then the second one's");
        HatRoom x = room("colour a 6;colour b 6;colour c 6;person p a;person q a;person s a;");
        int[] due = {1, 10, 11, -2};
        for (int k = 0; k < due.length; k++) {
            due("rest(0, 1, " + k + ")", x.rest(0, 1, k), due[k]);
            due("rest(1, 0, " + k + ")", x.rest(1, 0, k), due[k]);
        }
        HatRoom y = room("colour a 6;colour b 6;colour c 6;person p a;person q a;person s a;sees p q s;");
        due("p speaks, q waits", y.rest(0, 1, 0), 1);
        due("q waits, p speaks", y.rest(1, 0, 0), 10);
    }

    private static void kthRest() {
        sentence(30, "-2: there are no so many; NONE likewise, k is below 0");
        HatRoom x = room(EIGHT);
        due("rest(0, 1, 0)", x.rest(0, 1, 0), 1);
        due("rest(0, 1, 1)", x.rest(0, 1, 1), 10);
        for (int k : new int[] {2, 3, 4, MAX}) {
            due("rest(0, 1, " + k + ")", x.rest(0, 1, k), -2);
        }
        due("rest(0, 1, -1)", x.rest(0, 1, -1), -1);
        due("rest(0, 1, MIN)", x.rest(0, 1, MIN), -1);
        due("rest(1, 1, 0)", x.rest(1, 1, 0), -1);
        due("rest(1, 1, 9)", x.rest(1, 1, 9), -1);
        for (int n : NO_NUMBERS) {
            due("rest(" + n + ", 0, 0)", x.rest(n, 0, 0), -1);
            due("rest(0, " + n + ", 9)", x.rest(0, n, 9), -1);
        }
    }

    // By chance, and tried otherwise.

    private static void chanceOfSeeds() {
        sentence(31, "numbers from a seed 0 .. 2147483647 on, one behind another");
        // From 0: 0 68 88 17 98 27 45 41 22 10; from 2147483647: 29 9 62 18 13 26 80 63 32 34.
        HatRoom x = room(ONE + "ask 0;shy 41;seed 5;");
        due("chance(0, 1, 0)", x.chance(0, 1, 0), 5);
        due("chance(2147483647, 1, 0)", x.chance(MAX, 1, 0), 3);
        for (int seed : new int[] {-1, -2, MIN}) {
            due("chance(" + seed + ", 1, 0)", x.chance(seed, 1, 0), -1);
        }
        HatRoom y = room(ONE + "ask 0;ask 0;shy 41;");
        due("two numbers a time, the next time those behind them", y.chance(0, 1, 0), pairsNotBelow(0, 41));
        // The hours that go by have numbers of their own: 55 is the first of seed 5.
        HatRoom z = room(ONE + "ask 0;shy 56;seed 5;");
        z.chance(0, 1, 0);
        z.go(1);
        due("55 is below 56", z.count(9), 0);
    }

    /** In how many of ten pairs of numbers one isn't below a bound. */
    private static int pairsNotBelow(long seed, int bound) {
        long last = seed;
        int times = 0;
        for (int pair = 0; pair < 10; pair++) {
            boolean so = false;
            for (int i = 0; i < 2; i++) {
                last = (last * 1103515245L + 12345L) % 2147483648L;
                so |= last / 65536 % 100 >= bound;
            }
            times += so ? 1 : 0;
        }
        return times;
    }

    private static void chanceOfTenTimes() {
        sentence(31, "In how many of ten times drawn");
        String both = "colour r 2;person p r;person q r;sees q p;ask 0;";
        HatRoom x = room(both + "law hush 50*seen;");
        // p, who sees nobody, has no number; of seed 1: 38 58 13 15 51 27 10 19 12 86.
        due("p", x.chance(1, 1, 0), 10);
        due("q", x.chance(1, 1, 1), 3);
        HatRoom y = room(both + "law hush 100-50*seen;");
        due("p never", y.chance(1, 1, 0), 0);
        due("q", y.chance(1, 1, 1), 3);
        y.ask();
        due("not by call, either", y.chance(1, 1, 0), 0);
        HatRoom z = room(both + "law hush 49*seen;");
        z.ask();
        due("he SAID so ahead", z.chance(1, 1, 1), 10);
    }

    private static void chanceOfHours() {
        sentence(31, "n 1 .. 99 HOURS from now) a PERSON SAID so then; NONE: no such ones");
        HatRoom x = room(ONE + "ask 98;");
        due("chance(0, 98, 0)", x.chance(0, 98, 0), 0);
        due("chance(0, 99, 0)", x.chance(0, 99, 0), 10);
        x.go(97);
        due("chance(0, 1, 0)", x.chance(0, 1, 0), 0);
        due("chance(0, 2, 0)", x.chance(0, 2, 0), 10);
        for (int n : new int[] {0, 100, 200, -1, MAX, MIN}) {
            due("chance(0, " + n + ", 0)", x.chance(0, n, 0), -1);
        }
        for (int person : NO_NUMBERS) {
            due("chance(0, 1, " + person + ")", x.chance(0, 1, person), -1);
        }
        due("chance(0, 1, 1)", x.chance(0, 1, 1), -1);
        due("nobody there", new HatRoom().chance(0, 1, 0), -1);
    }

    private static void triedHours() {
        sentence(32, "TRIED (n 0 .. 200); NONE: no such ones (i 0 of all but 2)");
        HatRoom x = room(KNOWER + "ask 99;shy 50;");
        due("tried(0, 0, 0)", x.tried(0, 0, 0), 3);
        due("tried(0, 0, 99)", x.tried(0, 0, 99), 3);
        due("tried(0, 0, 100)", x.tried(0, 0, 100), 1);
        due("tried(0, 0, 200)", x.tried(0, 0, 200), 1);
        for (int what = 0; what <= 4; what++) {
            for (int n : new int[] {201, -1, MAX, MIN}) {
                due("tried(" + what + ", 0, " + n + ")", x.tried(what, 0, n), -1);
            }
            for (int i : new int[] {1, -1, 2, 6, MAX, MIN}) {
                due("tried(" + what + ", " + i + ", 0)", x.tried(what, i, 0), what == 2 && i == 1 ? 3 : -1);
            }
        }
        for (int what : new int[] {5, -1, MAX, MIN}) {
            due("tried(" + what + ", 0, 0)", x.tried(what, 0, 0), -1);
        }
        due("nobody there", new HatRoom().tried(2, 0, 0), -1);
        due("nobody there", new HatRoom().tried(4, 0, 0), 1);
    }

    private static void triedShyness() {
        sentence(32, "0 nobody is shy, 1 all always are (nobody SAYS it, nothing comes of it)");
        due("hushed all", room(KNOWER + "ask 0;law hush 100;").tried(0, 0, 1), 1);
        due("shy 100", room(SILENT + "ask 0;shy 100;").tried(0, 0, 1), 2);
        due("nobody SAYS it", room(KNOWER + "ask 0;").tried(1, 0, 1), 3);
        due("nor is silence heard", room(SILENT + "ask 0;law hush 0;").tried(1, 0, 1), 3);
    }

    private static void triedOneMute() {
        sentence(32, "2 PERSON i never SAYS it (nothing comes of his not saying so)");
        // p, who KNOWS, is mute; q's silence tells nothing, for he never knows.
        due("p knows", room(KNOWER + "ask 0;").tried(2, 0, 1), 3);
        due("q doesn't", room(KNOWER + "ask 0;").tried(2, 1, 1), 1);
        due("p doesn't, either", room(SILENT + "ask 0;").tried(2, 0, 1), 3);
        due("p's silence is heard", room(SILENT + "ask 0;").tried(2, 1, 1), 2);
    }

    private static void triedUntold() {
        sentence(32, "3 nothing is TOLD, 4 each SEES all others");
        HatRoom x = room(KNOWER + "fact f hat p w;tell f 0;");
        due("told", x.ahead(1, 0, 0), 2);
        due("untold", x.tried(3, 0, 1), 3);
        // As it goes, without numbers: the first number of seed 0 is 0, of seed 5 it is 55.
        due("49 says so", room(KNOWER + "ask 0;shy 49;").tried(3, 0, 1), 1);
        due("50 doesn't", room(KNOWER + "ask 0;shy 50;seed 5;").tried(3, 0, 1), 3);
        HatRoom y = room(SILENT.replace("sees p q;", "") + "ask 0;");
        due("nobody sees", y.ahead(1, 0, 0), 3);
        due("each sees", y.tried(4, 0, 1), 1);
        due("nobody does from now on", y.person(0, 1), 0);
    }

    // Undone, kept, counted.

    private static void twentyUndone() {
        sentence(33, "can be undone, the latest first (20 at most), if no HOUR went by since");
        HatRoom x = room(ONE + "fact f own p;");
        for (int i = 1; i <= 20; i++) {
            x.tell(0);
            due("count(13)", x.count(13), i);
        }
        x.tell(0);
        due("the 21st", x.count(13), 20);
        x.tell(0);
        due("the 22nd", x.count(13), 20);
        for (int i = 19; i >= 0; i--) {
            due("undo()", x.undo(), i);
            due("heard", x.count(11), i + 2);
        }
        due("undo()", x.undo(), -1);
        due("the first two stay", x.count(11), 2);
    }

    private static void latestFirst() {
        sentence(33, "Telling, asking, peeping by call (all that comes of it) can be undone, the latest first");
        HatRoom x = room(KNOWER + "fact f own p;");
        x.peep(1, 0);
        x.ask();
        x.tell(0);
        due("heard", x.count(11), 1);
        due("undo()", x.undo(), 2);
        due("not heard", x.count(11), 0);
        due("said", x.count(9), 1);
        due("prizes", x.person(0, 3), 10);
        due("undo()", x.undo(), 1);
        due("not said", x.count(9), 0);
        due("no prizes", x.person(0, 3), 0);
        due("left", x.count(7), 3);
        due("seen", x.person(1, 1), 1);
        due("undo()", x.undo(), 0);
        due("not seen", x.person(1, 1), 0);
        due("alike", x.person(1, 5), 3);
        HatRoom y = new HatRoom();
        y.ask();
        due("one that changes nothing, too", y.undo(), 0);
    }

    private static void noHourSince() {
        sentence(33, "if no HOUR went by since");
        HatRoom x = room(ONE);
        x.ask();
        x.go(0);
        due("no hour", x.count(13), 1);
        x.go(201);
        due("none went by", x.count(13), 1);
        x.go(1);
        due("an hour", x.count(13), 0);
        due("undo()", x.undo(), -1);
        due("said", x.count(9), 1);
        x.ask();
        due("undo()", x.undo(), 0);
    }

    private static void nothingToUndo() {
        sentence(33, "The latest is undone: how many are left; NONE: none");
        due("a new object", new HatRoom().undo(), -1);
        HatRoom x = room(KNOWER);
        due("a text", x.undo(), -1);
        x.peep(0, 1);
        x.tell(0);
        due("neither was one", x.undo(), -1);
        x.ask();
        due("undo()", x.undo(), 0);
        due("undo()", x.undo(), -1);
        due("undo()", x.undo(), -1);
        x.ask();
        due("undo()", x.undo(), 0);
    }

    private static void keepsAll() {
        sentence(35, "An IMAGE keeps all");
        // The numbers of seed 1: 38 58 13.
        HatRoom x = room(KNOWER + "fact f own p;fact n hat p r;tell n 0;ask 0;ask 1;seed 1;shy 39;");
        x.peep(1, 0);
        x.tell(0);
        due("keep()", x.keep(), 0);
        int[] kept = new int[13];
        for (int what = 0; what < 13; what++) {
            kept[what] = x.count(what);
        }
        for (int again = 0; again < 2; again++) {
            x.go(1);
            due("p: 38 is below 39, q: 58 isn't", x.person(0, 2) + 2 * x.person(1, 2), 2);
            due("a lie", x.count(12), 1);
            x.tell(0);
            x.ask();
            x.go(3);
            due("back()", x.back(), 0);
            for (int what = 0; what < 13; what++) {
                due("count(" + what + ")", x.count(what), kept[what]);
            }
            due("person(1, 1)", x.person(1, 1), 1);
            due("person(1, 3)", x.person(1, 3), 0);
            due("real()", x.real(), 0);
        }
        HatRoom y = room(EIGHT + "fact f hat p r;");
        y.keep();
        y.peep(0, 1);
        y.tell(0);
        y.back();
        due("left", y.count(7), 8);
        due("sees", y.person(0, 1), 0);
        due("the last world", y.world(7, 2), 1);
        due("alike", y.person(0, 5), 8);
    }

    private static void keepInPlace() {
        sentence(34, "An IMAGE is kept (in place of one ahead): which HOUR it is");
        HatRoom x = room(ONE);
        due("keep()", x.keep(), 0);
        x.go(7);
        due("keep()", x.keep(), 7);
        x.go(3);
        due("back()", x.back(), 7);
        due("count(6)", x.count(6), 7);
        x.ask();
        due("keep()", x.keep(), 7);
        due("what can be undone stays", x.count(13), 1);
    }

    private static void backToNone() {
        sentence(35, "All is as in the IMAGE (nothing to undo then): which HOUR it is; NONE: there is none");
        HatRoom x = room(ONE);
        x.ask();
        due("back()", x.back(), -1);
        due("what can be undone stays", x.count(13), 1);
        x.keep();
        x.ask();
        due("back()", x.back(), 0);
        due("nothing to undo", x.undo(), -1);
        due("said", x.count(9), 1);
        due("back() again", x.back(), 0);
        due("a fault", load(x, "shy 101;"), -1);
        due("the IMAGE stays", x.back(), 0);
        due("another text", load(x, ONE), 2);
        due("there is none", x.back(), -1);
        due("a new object", new HatRoom().back(), -1);
    }

    private static void noneGoesFirst() {
        sentence(30, "Of several answers that hold NONE goes first");
        HatRoom x = room(KNOWER);
        due("world(9, 9)", x.world(9, 9), -1);
        due("rest(0, 0, 9)", x.rest(0, 0, 9), -1);
        due("rest(0, 1, -1)", x.rest(0, 1, -1), -1);
        due("look(0, 2)", x.look(0, 2), -1);
        due("look(2, 0)", x.look(2, 0), -1);
        due("peep(0, 0)", x.peep(0, 0), -1);
    }

    private static void countedAtMost() {
        sentence(36, "13 what can be undone. NONE for another what");
        HatRoom x = room(ONE);
        for (int what : new int[] {-1, 14, MAX, MIN}) {
            due("count(" + what + ")", x.count(what), -1);
        }
        HatRoom y = room("colour a 6;colour b 6;colour c 6;person p a;person q a;person s a;person t a;person u a;person v a;"
                + "fact f many a 1;fact g as f;fact h as g;fact i as f;fact j as f;fact k as f;fact l as f;fact m as f;"
                + "tell m 0;".repeat(12) + "ask 9;".repeat(12));
        int[] most = {3, 6, 8, 12, 12, 8, 0, 729, 0, 0, 0, 0, 0, 0};
        for (int what = 0; what < most.length; what++) {
            due("count(" + what + ")", y.count(what), most[what]);
        }
    }

    private static void heardEachTime() {
        sentence(36, "11 FACTS HEARD (each time, by call, too), 12 LIES so far (by hours)");
        HatRoom x = room(ONE + "fact f own p;fact lie not own p;tell f 0;tell f 0;tell lie 0;tell lie 1;");
        x.tell(0);
        x.tell(1);
        due("by call", x.count(11), 1);
        due("no lie by call", x.count(12), 0);
        x.go(1);
        due("each time", x.count(11), 3);
        due("by hours", x.count(12), 1);
        x.go(1);
        due("so far", x.count(12), 2);
    }

    public static void main(String[] args) {
        aheadHours();
        aheadOfWhom();
        liesMore();
        willKnowInHours();
        willNeverKnow();
        depthOfAFact();
        depthOfALie();
        partsOfWorlds();
        roundsNotCounted();
        roundsOfAnotherWhat();
        fewestFacts();
        leastBits();
        taughtByTruthNow();
        teachNobody();
        teachAllOfThem();
        lookAtOne();
        lookAtNobody();
        guessTheFirst();
        guessInLeastTerms();
        likelyInLeastTerms();
        secretOfNobody();
        restsOfThoseWhoSeeNobody();
        eachByWhatItSees();
        eachWaits();
        noLessThanNothing();
        restsOfNobody();
        restsInOrder();
        kthRest();
        chanceOfSeeds();
        chanceOfTenTimes();
        chanceOfHours();
        triedHours();
        triedShyness();
        triedOneMute();
        triedUntold();
        twentyUndone();
        latestFirst();
        noHourSince();
        nothingToUndo();
        keepsAll();
        keepInPlace();
        backToNone();
        noneGoesFirst();
        countedAtMost();
        heardEachTime();
        finish(sentences + " sentences with a boundary in questions, " + checks + " checks");
    }
}
