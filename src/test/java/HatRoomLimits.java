/** The largest rooms, and wrong numbers for every call: nothing but what person() promises is ever thrown. */
public final class HatRoomLimits extends Checks {
    private static final int[] ODD = {Integer.MIN_VALUE, -1000, -3, -2, -1, 0, 1, 2, 3, 4, 5, 6, 7, 8, 9, 10, 11, 12, 13, 14, 20,
        63, 64, 99, 100, 199, 200, 201, 728, 729, 9800, 65536, 1 << 30, Integer.MAX_VALUE - 1, Integer.MAX_VALUE};
    private static final String[] ROOMS = {
        "",
        "colour r 0;",
        "colour r 6;person p r;",
        "colour a 6;colour b 6;colour c 6;person p a;person q b;person s c;person t a;person u b;person v c;"
            + "fact f not knows p all common (hat q a or own v);fact g all as f;fact h common as g or many a 3;"
            + "fact i knows t knows u hat v c;tell f 0;tell g 1;ask 2;tell h 3;ask 4;ask 4;shy 30;seed 99999;"
            + "law prize left*left*left*left*left/(hour-4);law hush alike*knew-said;",
        "colour a 6;colour b 6;colour c 6;person p a;person q b;person s c;person t a;person u b;person v c;"
            + "sees p q s t u v;sees q p s t u v;sees s p q t u v;sees t p q s u v;sees u p q s t v;sees v p q s t u;"
            + "fact f " + "common all ".repeat(31) + "own p;tell f 0;ask 0;shy 50;",
        "colour a 6;colour b 6;colour c 6;person p a;person q b;person s c;person t a;person u b;person v c;"
            + "sees p q s t u;sees q s t u v;sees s p t u v;sees t p q u v;sees u p q s v;sees v p q s t;"
            + "fact f ((((((((many a 2))))))));" + "tell f 1;".repeat(12) + "ask 99;".repeat(12) + "shy 49;"
            + "law hush " + "1+".repeat(31) + "1;",
    };

    private static long calls = 0;

    private static void check(boolean holds, String what) {
        calls++;
        if (!holds) {
            wrong++;
            System.out.println(what);
        }
    }

    private static void oneNumber(HatRoom x, int a) {
        int people = x.count(1);
        boolean person = a >= 0 && a < people;
        boolean fact = a >= 0 && a < x.count(2);
        check(a == 0 || a == 1 || x.fault(a) == -1, "fault " + a);
        check(x.own(a) == -1 == !person, "own " + a);
        check(x.is(a) == -1 == !fact, "is " + a);
        check(x.common(a) == -1 == !fact, "common " + a);
        check(x.depth(a) == -1 == !fact, "depth " + a);
        check(x.tell(a) == -1 == !fact, "tell " + a);
        check(x.willKnow(a) == -1 == !person, "willKnow " + a);
        check(x.rounds(a) == -1 == !(a >= 0 && a <= 2), "rounds " + a);
        check(x.teach(a) == -1 == !person, "teach " + a);
        check(x.count(a) == -1 == !(a >= 0 && a <= 13), "count " + a);
        check(x.text(a) == (a == 0 ? 0 : -2) || a == 0, "text " + a);
        check(x.real() >= 0 && x.real() < x.count(7), "real");
        check(x.parts() >= 1 && x.parts() <= x.count(7), "parts");
        check(x.go(a) == -1 == !(a >= 0 && a <= 200), "go " + a);
    }

    private static void twoNumbers(HatRoom x, int a, int b) {
        int people = x.count(1);
        boolean person = a >= 0 && a < people;
        boolean two = person && b >= 0 && b < people && a != b;
        boolean fact = b >= 0 && b < x.count(2);
        x.named(a, b);
        check(thrown(x, a, b) == (!person ? 1 : b < 0 || b > 5 ? 2 : 0), "person " + a + " " + b);
        check(x.world(a, b) == -1 == !(a >= 0 && b >= 0 && b < people), "world " + a + " " + b);
        check(x.sure(a, b) == -1 == !(person && fact), "sure " + a + " " + b);
        check(x.law(b, a) == Long.MIN_VALUE || person && (b == 0 || b == 1), "law " + b + " " + a);
        check(x.look(a, b) == -1 == !(person && (b == 0 || b == 1)), "look " + a + " " + b);
        check(x.guess(a, b) == -1 == !(person && b >= 0 && b <= 2), "guess " + a + " " + b);
        check(x.likely(b, a) == -1 == !(fact && (a == 0 || a == 1)), "likely " + b + " " + a);
        check(x.secret(a, b) == -1 == !two, "secret " + a + " " + b);
        check(x.rests(a, b) == -1 == !two, "rests " + a + " " + b);
        check(x.rest(a, b, a) == -1 == !two, "rest " + a + " " + b);
        check(x.rest(a, b, -1) == -1, "rest " + a + " " + b);
        check(x.peep(a, b) == -1 == !two, "peep " + a + " " + b);
        x.undo();
    }

    private static void threeNumbers(HatRoom x, int a, int b) {
        int people = x.count(1);
        for (int c : new int[] {-1, 0, 2, 5, 6}) {
            boolean person = c >= 0 && c < people;
            boolean ahead = a >= 0 && a <= 200 && b >= 0 && b <= 4 && (b != 3 || person);
            check(x.ahead(a, b, c) == -1 == !ahead, "ahead " + a + " " + b + " " + c);
            boolean tried = a >= 0 && a <= 200 && b >= 0 && b <= 4 && (b == 2 ? person : c == 0);
            check(x.tried(b, c, a) == -1 == !tried, "tried " + b + " " + c + " " + a);
            check(x.chance(b, a, c) == -1 == !(b >= 0 && a >= 1 && a <= 99 && person), "chance " + b + " " + a + " " + c);
        }
    }

    /** Random bytes are no text, but never more than a fault. */
    private static void noise() {
        java.util.Random random = new java.util.Random(7);
        HatRoom x = new HatRoom();
        for (int i = 0; i < 3000; i++) {
            int n = random.nextInt(36);
            for (int k = 0; k < n; k++) {
                x.feed(random.nextInt(), random.nextInt(), random.nextInt(), random.nextInt(), random.nextInt());
            }
            int lines = x.text(20 * n);
            check(n == 0 ? lines == 0 : lines == -1 && x.fault(1) >= 0 && x.fault(1) <= 20 * n, "noise " + i);
        }
    }

    public static void main(String[] args) {
        noise();
        for (String text : ROOMS) {
            for (int a : ODD) {
                oneNumber(room(text), a);
            }
            HatRoom x = room(text);
            HatRoom y = room(text);
            y.go(3);
            for (int a : ODD) {
                for (int b : ODD) {
                    twoNumbers(x, a, b);
                    twoNumbers(y, a, b);
                    threeNumbers(y, a, b);
                }
            }
            threeNumbers(x, 99, 2);
            for (int i = 0; i < 45; i++) {
                x.ask();
                x.tell(0);
                check(x.undo() >= 0, "undo");
                x.keep();
                x.go(200);
            }
            check(x.count(6) == 9000, "hour");
        }
        finish(calls + " checks at the limits");
    }
}
