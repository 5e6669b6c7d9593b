import java.util.ArrayDeque;
import java.util.ArrayList;
import java.util.Arrays;
import java.util.Deque;
import java.util.HashMap;
import java.util.HashSet;
import java.util.IdentityHashMap;
import java.util.List;
import java.util.Map;
import java.util.NoSuchElementException;
import java.util.Set;

/**
 * The document once more, as slowly and as literally as can be: trees, lists of worlds, recursion.
 * It shares nothing with HatRoom, so that both are unlikely to be wrong in the same way.
 */
final class Oracle {
    static final Set<String> LANGUAGE = new HashSet<>(Arrays.asList(
            "colour", "person", "sees", "fact", "tell", "ask", "shy", "seed", "law", "prize", "hush",
            "or", "and", "not", "hat", "own", "knows", "all", "common", "many", "as",
            "hour", "left", "seen", "knew", "said", "told", "alike"));
    static final Set<String> NAMES = new HashSet<>(Arrays.asList(
            "hour", "left", "seen", "knew", "said", "told", "alike"));
    static final long LIMIT = 1_000_000_000_000L;

    static final class Fault extends RuntimeException {
        final int what;
        final int place;

        Fault(int what, int place) {
            super(null, null, false, false);
            this.what = what;
            this.place = place;
        }
    }

    static final class Err extends RuntimeException {
        Err() {
            super(null, null, false, false);
        }
    }

    static final class Node {
        final String op;
        int a;
        int b;
        Node l;
        Node r;

        Node(String op) {
            this.op = op;
        }
    }

    static final class Script {
        final List<String> colours = new ArrayList<>();
        final List<Integer> stock = new ArrayList<>();
        final List<String> people = new ArrayList<>();
        final List<Integer> hats = new ArrayList<>();
        final List<Set<Integer>> sees = new ArrayList<>();
        final List<String> facts = new ArrayList<>();
        final List<Node> formulas = new ArrayList<>();
        final List<int[]> tells = new ArrayList<>();
        final List<Integer> asks = new ArrayList<>();
        int shy = 0;
        int seed = 0;
        boolean shyTold;
        boolean seedTold;
        Node prize;
        Node hush;
        int knots;
        int lines;
    }

    /** A reader by recursive descent over the bytes themselves. */
    static final class Parser {
        final byte[] bytes;
        int pos;
        String token;
        int place;
        int open;
        final Script script = new Script();

        Parser(byte[] bytes) {
            this.bytes = bytes;
            next();
        }

        int at(int i) {
            return i < bytes.length ? bytes[i] & 255 : -1;
        }

        void next() {
            while (at(pos) == 10 || at(pos) == 32) {
                pos++;
            }
            place = pos;
            int c = at(pos);
            StringBuilder b = new StringBuilder();
            if (c == -1) {
                token = "";
                return;
            }
            if (c >= 'a' && c <= 'z') {
                while (at(pos) >= 'a' && at(pos) <= 'z') {
                    b.append((char) at(pos++));
                }
            } else if (c >= '0' && c <= '9') {
                while (at(pos) >= '0' && at(pos) <= '9') {
                    b.append((char) at(pos++));
                }
            } else {
                b.append((char) at(pos++));
                if ((c == '<' || c == '>') && at(pos) == '=' || c == '<' && at(pos) == '>') {
                    b.append((char) at(pos++));
                }
            }
            token = b.toString();
        }

        boolean isW() {
            return token.matches("[a-z]{1,6}") && !LANGUAGE.contains(token);
        }

        boolean isN() {
            return token.matches("[0-9]+");
        }

        Fault fault(int what) {
            return new Fault(what, place);
        }

        int number(int most) {
            if (!isN()) {
                throw fault(1);
            }
            java.math.BigInteger n = new java.math.BigInteger(token);
            if (n.compareTo(java.math.BigInteger.valueOf(most)) > 0) {
                throw fault(2);
            }
            next();
            return n.intValue();
        }

        String fresh(List<String> names) {
            if (!isW()) {
                throw fault(1);
            }
            if (names.contains(token)) {
                throw fault(3);
            }
            String s = token;
            next();
            return s;
        }

        int peekKnown(List<String> names) {
            if (!isW()) {
                throw fault(1);
            }
            if (!names.contains(token)) {
                throw fault(4);
            }
            return names.indexOf(token);
        }

        int known(List<String> names) {
            int i = peekKnown(names);
            next();
            return i;
        }

        void parse() {
            while (!token.isEmpty()) {
                line();
                if (!token.equals(";")) {
                    throw fault(1);
                }
                next();
                script.lines++;
            }
        }

        void atMost(int have, int most) {
            if (have >= most) {
                throw fault(2);
            }
        }

        void line() {
            String word = token;
            switch (word) {
                case "colour": {
                    atMost(script.colours.size(), 3);
                    next();
                    String name = fresh(script.colours);
                    int n = number(6);
                    script.colours.add(name);
                    script.stock.add(n);
                    return;
                }
                case "person": {
                    atMost(script.people.size(), 6);
                    next();
                    String name = fresh(script.people);
                    int c = peekKnown(script.colours);
                    int used = 0;
                    for (int h : script.hats) {
                        used += h == c ? 1 : 0;
                    }
                    if (used >= script.stock.get(c)) {
                        throw fault(5);
                    }
                    next();
                    script.people.add(name);
                    script.hats.add(c);
                    script.sees.add(new HashSet<>());
                    return;
                }
                case "sees":
                    sees();
                    return;
                case "fact": {
                    atMost(script.facts.size(), 8);
                    next();
                    String name = fresh(script.facts);
                    open = 0;
                    Node f = parseF();
                    script.facts.add(name);
                    script.formulas.add(f);
                    return;
                }
                case "tell": {
                    atMost(script.tells.size(), 12);
                    next();
                    int f = known(script.facts);
                    script.tells.add(new int[] {f, number(99)});
                    return;
                }
                case "ask":
                    atMost(script.asks.size(), 12);
                    next();
                    script.asks.add(number(99));
                    return;
                case "shy":
                    if (script.shyTold) {
                        throw fault(3);
                    }
                    next();
                    script.shyTold = true;
                    script.shy = number(100);
                    return;
                case "seed":
                    if (script.seedTold) {
                        throw fault(3);
                    }
                    next();
                    script.seedTold = true;
                    script.seed = number(99999);
                    return;
                case "law":
                    law();
                    return;
                default:
                    throw fault(1);
            }
        }

        void sees() {
            next();
            int p = peekKnown(script.people);
            if (!script.sees.get(p).isEmpty()) {
                throw fault(3);
            }
            next();
            do {
                int o = peekKnown(script.people);
                if (o == p) {
                    throw fault(5);
                }
                if (!script.sees.get(p).add(o)) {
                    throw fault(3);
                }
                next();
            } while (!token.equals(";"));
        }

        void law() {
            next();
            boolean prize = token.equals("prize");
            if (!prize && !token.equals("hush")) {
                throw fault(1);
            }
            if ((prize ? script.prize : script.hush) != null) {
                throw fault(3);
            }
            next();
            open = 0;
            Node e = parseE();
            if (prize) {
                script.prize = e;
            } else {
                script.hush = e;
            }
        }

        Node knot() {
            if (script.knots >= 64) {
                throw fault(2);
            }
            script.knots++;
            Node n = new Node(token);
            next();
            return n;
        }

        Node binary(Node l, Node op, Node r) {
            op.l = l;
            op.r = r;
            return op;
        }

        Node parseF() {
            Node l = parseG();
            while (token.equals("or")) {
                Node op = knot();
                l = binary(l, op, parseG());
            }
            return l;
        }

        Node parseG() {
            Node l = parseH();
            while (token.equals("and")) {
                Node op = knot();
                l = binary(l, op, parseH());
            }
            return l;
        }

        Node parseH() {
            if (token.equals("not")) {
                Node op = knot();
                op.l = parseH();
                return op;
            }
            return parseP();
        }

        Node parseP() {
            switch (token) {
                case "hat": {
                    Node n = knot();
                    n.a = known(script.people);
                    n.b = known(script.colours);
                    return n;
                }
                case "own": {
                    Node n = knot();
                    n.a = known(script.people);
                    return n;
                }
                case "knows": {
                    Node n = knot();
                    n.a = known(script.people);
                    n.l = parseP();
                    return n;
                }
                case "all":
                case "common": {
                    Node n = knot();
                    n.l = parseP();
                    return n;
                }
                case "many": {
                    Node n = knot();
                    n.a = known(script.colours);
                    n.b = number(6);
                    return n;
                }
                case "as": {
                    Node n = knot();
                    n.a = known(script.facts);
                    return n;
                }
                case "(": {
                    opens();
                    Node n = parseF();
                    closes();
                    return n;
                }
                default:
                    throw fault(1);
            }
        }

        void opens() {
            if (open >= 8) {
                throw fault(2);
            }
            open++;
            next();
        }

        void closes() {
            if (!token.equals(")")) {
                throw fault(1);
            }
            open--;
            next();
        }

        Node parseE() {
            Node l = parseA();
            while (token.equals("or")) {
                Node op = knot();
                l = binary(l, op, parseA());
            }
            return l;
        }

        Node parseA() {
            Node l = parseB();
            while (token.equals("and")) {
                Node op = knot();
                l = binary(l, op, parseB());
            }
            return l;
        }

        Node parseB() {
            if (token.equals("not")) {
                Node op = knot();
                op.l = parseB();
                return op;
            }
            return parseC();
        }

        Node parseC() {
            Node l = parseS();
            if (Arrays.asList("<", "<=", "=", "<>", ">=", ">").contains(token)) {
                Node op = knot();
                l = binary(l, op, parseS());
            }
            return l;
        }

        Node parseS() {
            Node l = parseT();
            while (token.equals("+") || token.equals("-")) {
                Node op = knot();
                l = binary(l, op, parseT());
            }
            return l;
        }

        Node parseT() {
            Node l = parseU();
            while (token.equals("*") || token.equals("/")) {
                Node op = knot();
                l = binary(l, op, parseU());
            }
            return l;
        }

        Node parseU() {
            if (isN()) {
                if (new java.math.BigInteger(token).compareTo(java.math.BigInteger.valueOf(9999)) > 0) {
                    throw fault(2);
                }
                int value = Integer.parseInt(token.replaceFirst("^0+(?=.)", ""));
                knot();
                Node n = new Node("N");
                n.a = value;
                return n;
            }
            if (NAMES.contains(token)) {
                return knot();
            }
            if (token.equals("(")) {
                opens();
                Node n = parseE();
                closes();
                return n;
            }
            throw fault(1);
        }
    }

    /** All that changes. */
    static final class Now {
        List<int[]> left = new ArrayList<>();
        List<Set<Integer>> sees = new ArrayList<>();
        boolean[] said = new boolean[6];
        int[] prizes = new int[6];
        int heard;
        int lies;
        int hour;
        long last;

        Now copy() {
            Now n = new Now();
            n.left.addAll(left);
            for (Set<Integer> s : sees) {
                n.sees.add(new HashSet<>(s));
            }
            n.said = said.clone();
            n.prizes = prizes.clone();
            n.heard = heard;
            n.lies = lies;
            n.hour = hour;
            n.last = last;
            return n;
        }
    }

    private Script script = new Script();
    private Now now = new Now();
    private Now image;
    private final Deque<Now> past = new ArrayDeque<>();
    private byte[] tape = new byte[0];
    private int fault = 0;
    private int faultPlace = -1;

    Oracle() {
        begin();
    }

    private void begin() {
        now = new Now();
        worlds(new int[script.people.size()], 0);
        for (Set<Integer> s : script.sees) {
            now.sees.add(new HashSet<>(s));
        }
        now.last = script.seed;
        image = null;
        past.clear();
    }

    private void worlds(int[] w, int i) {
        if (i == w.length) {
            int[] used = new int[3];
            for (int c : w) {
                used[c]++;
            }
            for (int c = 0; c < script.colours.size(); c++) {
                if (used[c] > script.stock.get(c)) {
                    return;
                }
            }
            now.left.add(w.clone());
            return;
        }
        for (int c = 0; c < script.colours.size(); c++) {
            w[i] = c;
            worlds(w, i + 1);
        }
    }

    private int people() {
        return script.people.size();
    }

    private int[] truth() {
        int[] w = new int[people()];
        for (int i = 0; i < w.length; i++) {
            w[i] = script.hats.get(i);
        }
        return w;
    }

    private static boolean cantPart(Now s, int person, int[] v, int[] w) {
        for (int o : s.sees.get(person)) {
            if (v[o] != w[o]) {
                return false;
            }
        }
        return true;
    }

    private static List<int[]> alike(Now s, int person, int[] w) {
        List<int[]> list = new ArrayList<>();
        for (int[] v : s.left) {
            if (cantPart(s, person, v, w)) {
                list.add(v);
            }
        }
        return list;
    }

    private boolean everywhere(Now s, Node f, List<int[]> worlds) {
        for (int[] v : worlds) {
            if (!so(s, f, v)) {
                return false;
            }
        }
        return true;
    }

    private List<int[]> reach(Now s, int[] w) {
        List<int[]> met = new ArrayList<>();
        Set<String> known = new HashSet<>();
        met.add(w);
        known.add(Arrays.toString(w));
        for (int i = 0; i < met.size(); i++) {
            for (int p = 0; p < people(); p++) {
                for (int[] v : alike(s, p, met.get(i))) {
                    if (known.add(Arrays.toString(v))) {
                        met.add(v);
                    }
                }
            }
        }
        return met;
    }

    private static boolean knowsHat(Now s, int person, int one, int[] w) {
        Set<Integer> colours = new HashSet<>();
        for (int[] v : alike(s, person, w)) {
            colours.add(v[one]);
        }
        return colours.size() == 1;
    }

    // What was found out of the worlds of one list; else formulas in formulas would take too long.
    private List<int[]> foundIn;
    private final Map<Node, Map<Integer, Boolean>> found = new IdentityHashMap<>();

    private boolean so(Now s, Node f, int[] w) {
        if (foundIn != s.left) {
            foundIn = s.left;
            found.clear();
        }
        int key = 0;
        for (int c : w) {
            key = key * 3 + c;
        }
        Boolean known = found.computeIfAbsent(f, g -> new HashMap<>()).get(key);
        if (known == null) {
            known = workOut(s, f, w);
            found.get(f).put(key, known);
        }
        return known;
    }

    private boolean workOut(Now s, Node f, int[] w) {
        switch (f.op) {
            case "hat":
                return w[f.a] == f.b;
            case "own":
                return knowsHat(s, f.a, f.a, w);
            case "knows":
                return everywhere(s, f.l, alike(s, f.a, w));
            case "all":
                for (int p = 0; p < people(); p++) {
                    if (!everywhere(s, f.l, alike(s, p, w))) {
                        return false;
                    }
                }
                return true;
            case "common":
                return everywhere(s, f.l, reach(s, w));
            case "many": {
                int n = 0;
                for (int c : w) {
                    n += c == f.a ? 1 : 0;
                }
                return n >= f.b;
            }
            case "as":
                return so(s, script.formulas.get(f.a), w);
            case "not":
                return !so(s, f.l, w);
            case "and":
                return so(s, f.l, w) && so(s, f.r, w);
            case "or":
                return so(s, f.l, w) || so(s, f.r, w);
            default:
                throw new IllegalStateException(f.op);
        }
    }

    private boolean told(Now s, int fact) {
        Node f = script.formulas.get(fact);
        if (!so(s, f, truth())) {
            return false;
        }
        List<int[]> stay = new ArrayList<>();
        for (int[] w : s.left) {
            if (so(s, f, w)) {
                stay.add(w);
            }
        }
        s.left = stay;
        s.heard++;
        return true;
    }

    private static int how(boolean[] bits) {
        int n = 0;
        for (boolean b : bits) {
            n += b ? 1 : 0;
        }
        return n;
    }

    private int knowBits(Now s) {
        int bits = 0;
        for (int p = 0; p < people(); p++) {
            bits |= knowsHat(s, p, p, truth()) ? 1 << p : 0;
        }
        return bits;
    }

    private long value(Now s, Node e, int person) {
        long v = raw(s, e, person);
        if (v > LIMIT || v < -LIMIT) {
            throw new Err();
        }
        return v;
    }

    private long raw(Now s, Node e, int person) {
        switch (e.op) {
            case "N":
                return e.a;
            case "hour":
                return s.hour;
            case "left":
                return s.left.size();
            case "seen":
                return s.sees.get(person).size();
            case "knew":
                return Integer.bitCount(knowBits(s));
            case "said":
                return how(s.said);
            case "told":
                return s.heard;
            case "alike":
                return alike(s, person, truth()).size();
            case "not":
                return value(s, e.l, person) == 0 ? 1 : 0;
            default:
        }
        long a = value(s, e.l, person);
        long b = value(s, e.r, person);
        switch (e.op) {
            case "and":
                return a != 0 && b != 0 ? 1 : 0;
            case "or":
                return a != 0 || b != 0 ? 1 : 0;
            case "<":
                return a < b ? 1 : 0;
            case "<=":
                return a <= b ? 1 : 0;
            case "=":
                return a == b ? 1 : 0;
            case "<>":
                return a != b ? 1 : 0;
            case ">=":
                return a >= b ? 1 : 0;
            case ">":
                return a > b ? 1 : 0;
            case "+":
                return a + b;
            case "-":
                return a - b;
            case "*": {
                java.math.BigInteger x = java.math.BigInteger.valueOf(a).multiply(java.math.BigInteger.valueOf(b));
                if (x.abs().compareTo(java.math.BigInteger.valueOf(LIMIT)) > 0) {
                    throw new Err();
                }
                return x.longValue();
            }
            case "/":
                if (b == 0) {
                    throw new Err();
                }
                return a / b;
            default:
                throw new IllegalStateException(e.op);
        }
    }

    private long lawOr(Now s, Node e, int person, long without, long most) {
        if (e == null) {
            return without;
        }
        try {
            return Math.max(0, Math.min(most, value(s, e, person)));
        } catch (Err err) {
            return without;
        }
    }

    private static long number(Now s) {
        s.last = (s.last * 1103515245L + 12345L) % (1L << 31);
        return s.last / 65536;
    }

    /** What: -1 as told, else what is tried otherwise. */
    private int asked(Now s, boolean drawn, int what, int mute) {
        int know = knowBits(s);
        int says = 0;
        int quiet = 0;
        for (int p = 0; p < people(); p++) {
            long e = lawOr(s, script.hush, p, script.shy, 100);
            if (what == 0) {
                e = 0;
            }
            if (what == 1 || what == 2 && p == mute) {
                e = 100;
            }
            boolean speaks = false;
            if ((know >> p & 1) == 1) {
                if (!drawn) {
                    speaks = e < 50;
                } else if (e == 0) {
                    speaks = true;
                } else if (e < 100) {
                    speaks = !(number(s) % 100 < e);
                }
            }
            if (speaks) {
                says |= 1 << p;
                if (!s.said[p]) {
                    s.prizes[p] += (int) lawOr(s, script.prize, p, 10, 999);
                    s.said[p] = true;
                }
            } else if (e == 0) {
                quiet |= 1 << p;
            }
        }
        List<int[]> stay = new ArrayList<>();
        for (int[] w : s.left) {
            boolean stays = true;
            for (int p = 0; p < people(); p++) {
                boolean would = knowsHat(s, p, p, w);
                if ((says >> p & 1) == 1 && !would || (quiet >> p & 1) == 1 && would) {
                    stays = false;
                }
            }
            if (stays) {
                stay.add(w);
            }
        }
        s.left = stay;
        return says;
    }

    private void hours(Now s, int n, boolean drawn, int what, int mute) {
        for (int i = 0; i < n; i++) {
            for (int[] t : script.tells) {
                if (t[1] == s.hour && what != 3 && !told(s, t[0])) {
                    s.lies++;
                }
            }
            for (int h : script.asks) {
                if (h == s.hour) {
                    asked(s, drawn, what, mute);
                }
            }
            s.hour++;
        }
    }

    int feed(int a, int b, int c, int d, int e) {
        if (tape.length + 20 > 700) {
            return -1;
        }
        java.nio.ByteBuffer buffer = java.nio.ByteBuffer.allocate(tape.length + 20);
        buffer.put(tape).putInt(a).putInt(b).putInt(c).putInt(d).putInt(e);
        tape = buffer.array();
        return tape.length;
    }

    int text(int n) {
        if (n < 0 || n > tape.length) {
            return -2;
        }
        byte[] bytes = Arrays.copyOf(tape, n);
        tape = new byte[0];
        fault = 0;
        faultPlace = -1;
        try {
            Parser parser = new Parser(bytes);
            parser.parse();
            script = parser.script;
        } catch (Fault f) {
            fault = f.what;
            faultPlace = f.place;
            return -1;
        }
        begin();
        return script.lines;
    }

    int fault(int what) {
        return what == 0 ? fault : what == 1 ? faultPlace : -1;
    }

    int named(int what, int letters) {
        if (what < 0 || what > 2) {
            return -1;
        }
        List<String> names = what == 0 ? script.colours : what == 1 ? script.people : script.facts;
        for (int i = 0; i < names.size(); i++) {
            int code = 0;
            for (int k = 0; k < 6; k++) {
                code = code * 32 + (k < names.get(i).length() ? names.get(i).charAt(k) - 'a' + 1 : 0);
            }
            if (code == letters) {
                return i;
            }
        }
        return -1;
    }

    private boolean isPerson(int p) {
        return p >= 0 && p < people();
    }

    private boolean isFact(int f) {
        return f >= 0 && f < script.facts.size();
    }

    int person(int person, int what) {
        if (!isPerson(person)) {
            throw new IndexOutOfBoundsException();
        }
        switch (what) {
            case 0:
                return script.hats.get(person);
            case 1: {
                int bits = 0;
                for (int o : now.sees.get(person)) {
                    bits |= 1 << o;
                }
                return bits;
            }
            case 2:
                return now.said[person] ? 1 : 0;
            case 3:
                return now.prizes[person];
            case 4: {
                int bits = 0;
                for (int[] w : alike(now, person, truth())) {
                    bits |= 1 << w[person];
                }
                return bits;
            }
            case 5:
                return alike(now, person, truth()).size();
            default:
                throw new NoSuchElementException();
        }
    }

    int own(int person) {
        if (!isPerson(person)) {
            return -1;
        }
        return knowsHat(now, person, person, truth()) ? script.hats.get(person) : -2;
    }

    int world(int k, int person) {
        if (!isPerson(person) || k < 0) {
            return -1;
        }
        return k < now.left.size() ? now.left.get(k)[person] : -2;
    }

    int real() {
        for (int k = 0; k < now.left.size(); k++) {
            if (Arrays.equals(now.left.get(k), truth())) {
                return k;
            }
        }
        throw new IllegalStateException("the true world is not left");
    }

    int is(int fact) {
        if (!isFact(fact)) {
            return -1;
        }
        return so(now, script.formulas.get(fact), truth()) ? 1 : 0;
    }

    int sure(int person, int fact) {
        if (!isPerson(person) || !isFact(fact)) {
            return -1;
        }
        Node not = new Node("not");
        not.l = script.formulas.get(fact);
        List<int[]> worlds = alike(now, person, truth());
        return everywhere(now, not.l, worlds) ? 1 : everywhere(now, not, worlds) ? 0 : 2;
    }

    int common(int fact) {
        if (!isFact(fact)) {
            return -1;
        }
        return everywhere(now, script.formulas.get(fact), reach(now, truth())) ? 1 : 0;
    }

    int depth(int fact) {
        if (!isFact(fact)) {
            return -1;
        }
        if (is(fact) == 0) {
            return -2;
        }
        // Each world is looked at once a step: the tree of alls would be too large.
        List<int[]> good = new ArrayList<>();
        for (int[] w : now.left) {
            if (so(now, script.formulas.get(fact), w)) {
                good.add(w);
            }
        }
        for (int d = 0; d < 20; d++) {
            List<int[]> next = new ArrayList<>();
            for (int[] w : now.left) {
                boolean all = true;
                for (int p = 0; p < people(); p++) {
                    all &= good.containsAll(alike(now, p, w));
                }
                if (all) {
                    next.add(w);
                }
            }
            boolean holds = false;
            for (int[] w : next) {
                holds |= Arrays.equals(w, truth());
            }
            if (!holds) {
                return d;
            }
            good = next;
        }
        return 20;
    }

    long law(int what, int person) {
        if (what < 0 || what > 1 || !isPerson(person)) {
            return Long.MIN_VALUE;
        }
        Node e = what == 0 ? script.prize : script.hush;
        if (e == null) {
            return Long.MIN_VALUE;
        }
        try {
            return value(now, e, person);
        } catch (Err err) {
            return Long.MIN_VALUE;
        }
    }

    private void remember(Now s) {
        past.push(s);
        if (past.size() > 20) {
            past.removeLast();
        }
    }

    int tell(int fact) {
        if (!isFact(fact)) {
            return -1;
        }
        Now before = now.copy();
        if (!told(now, fact)) {
            return -2;
        }
        remember(before);
        return now.left.size();
    }

    int ask() {
        remember(now.copy());
        return asked(now, false, -1, -1);
    }

    int peep(int person, int other) {
        if (!isPerson(person) || !isPerson(other) || person == other) {
            return -1;
        }
        if (now.sees.get(person).contains(other)) {
            return -2;
        }
        remember(now.copy());
        found.clear();
        now.sees.get(person).add(other);
        return alike(now, person, truth()).size();
    }

    int go(int n) {
        if (n < 0 || n > 200 || now.hour + n > 9800) {
            return -1;
        }
        hours(now, n, true, -1, -1);
        if (n > 0) {
            past.clear();
        }
        return now.hour;
    }

    int ahead(int n, int what, int person) {
        if (n < 0 || n > 200 || what < 0 || what > 4 || what == 3 && !isPerson(person)) {
            return -1;
        }
        Now s = now.copy();
        hours(s, n, false, -1, -1);
        return what == 0 ? s.left.size() : what == 1 ? Integer.bitCount(knowBits(s)) : what == 2 ? how(s.said)
                : what == 3 ? s.prizes[person] : s.lies - now.lies;
    }

    int willKnow(int person) {
        if (!isPerson(person)) {
            return -1;
        }
        Now s = now.copy();
        for (int k = 0; k <= 199; k++) {
            if (knowsHat(s, person, person, truth())) {
                return k;
            }
            hours(s, 1, false, -1, -1);
        }
        return -2;
    }

    int parts() {
        List<int[]> rest = new ArrayList<>(now.left);
        int n = 0;
        while (!rest.isEmpty()) {
            n++;
            for (int[] w : reach(now, rest.get(0))) {
                rest.removeIf(v -> Arrays.equals(v, w));
            }
        }
        return n;
    }

    int rounds(int what) {
        if (what < 0 || what > 2) {
            return -1;
        }
        Now s = now.copy();
        int n = 0;
        while (true) {
            int before = s.left.size();
            asked(s, false, 0, -1);
            if (s.left.size() == before) {
                break;
            }
            n++;
        }
        return what == 0 ? n : what == 1 ? knowBits(s) : s.left.size();
    }

    private int taught(int who) {
        int best = -2;
        boolean[][] table = new boolean[script.facts.size()][now.left.size()];
        for (int f = 0; f < table.length; f++) {
            for (int k = 0; k < now.left.size(); k++) {
                table[f][k] = so(now, script.formulas.get(f), now.left.get(k));
            }
        }
        for (int set = 0; set < 1 << script.facts.size(); set++) {
            Now s = now.copy();
            s.left.clear();
            for (int k = 0; k < now.left.size(); k++) {
                boolean stays = true;
                for (int f = 0; f < table.length; f++) {
                    stays &= (set >> f & 1) == 0 || table[f][k];
                }
                if (stays) {
                    s.left.add(now.left.get(k));
                }
            }
            boolean allSo = true;
            for (int f = 0; f < table.length; f++) {
                allSo &= (set >> f & 1) == 0 || is(f) == 1;
            }
            if (allSo && (knowBits(s) & who) == who
                    && (best == -2 || Integer.bitCount(set) < Integer.bitCount(best))) {
                best = set;
            }
        }
        return best;
    }

    int teach(int person) {
        return isPerson(person) ? taught(1 << person) : -1;
    }

    int teachAll() {
        return taught((1 << people()) - 1);
    }

    int look(int person, int what) {
        if (!isPerson(person) || what < 0 || what > 1) {
            return -1;
        }
        int best = -2;
        int least = Integer.MAX_VALUE;
        for (int o = 0; o < people(); o++) {
            if (o == person || now.sees.get(person).contains(o)) {
                continue;
            }
            int worst = 0;
            for (int[] w : alike(now, person, truth())) {
                Now s = now.copy();
                s.sees.get(person).add(o);
                worst = Math.max(worst, alike(s, person, w).size());
            }
            if (worst < least) {
                least = worst;
                best = o;
            }
        }
        return best == -2 ? -2 : what == 0 ? best : least;
    }

    private static int gcd(int a, int b) {
        return b == 0 ? a : gcd(b, a % b);
    }

    int guess(int person, int what) {
        if (!isPerson(person) || what < 0 || what > 2) {
            return -1;
        }
        int[] many = new int[3];
        List<int[]> worlds = alike(now, person, truth());
        for (int[] w : worlds) {
            many[w[person]]++;
        }
        int best = 0;
        for (int c = 1; c < 3; c++) {
            best = many[c] > many[best] ? c : best;
        }
        int g = gcd(many[best], worlds.size());
        return what == 0 ? best : what == 1 ? many[best] / g : worlds.size() / g;
    }

    int likely(int fact, int what) {
        if (!isFact(fact) || what < 0 || what > 1) {
            return -1;
        }
        int n = 0;
        for (int[] w : now.left) {
            n += so(now, script.formulas.get(fact), w) ? 1 : 0;
        }
        int g = gcd(n, now.left.size());
        return what == 0 ? n / g : now.left.size() / g;
    }

    int secret(int person, int other) {
        if (!isPerson(person) || !isPerson(other) || person == other) {
            return -1;
        }
        return knowsHat(now, other, person, truth()) ? 0 : 1;
    }

    /** What each of two has by what both do. */
    private int[] speak(int one, int other, int a, int b) {
        int likeOne = alike(now, one, truth()).size();
        int likeOther = alike(now, other, truth()).size();
        int seesOne = now.sees.get(one).size();
        int seesOther = now.sees.get(other).size();
        if (a == 0 && b == 0) {
            return new int[] {Math.max(0, 9 - likeOne), Math.max(0, 9 - likeOther)};
        }
        if (a == 0) {
            return new int[] {Math.max(0, 12 - likeOne), 2 + seesOther};
        }
        if (b == 0) {
            return new int[] {2 + seesOne, Math.max(0, 12 - likeOther)};
        }
        return new int[] {seesOne, seesOther};
    }

    private List<Integer> allRests(int one, int other) {
        List<Integer> found = new ArrayList<>();
        for (int a = 0; a < 2; a++) {
            for (int b = 0; b < 2; b++) {
                int[] has = speak(one, other, a, b);
                if (speak(one, other, 1 - a, b)[0] <= has[0] && speak(one, other, a, 1 - b)[1] <= has[1]) {
                    found.add(10 * a + b);
                }
            }
        }
        return found;
    }

    int rests(int one, int other) {
        if (!isPerson(one) || !isPerson(other) || one == other) {
            return -1;
        }
        return allRests(one, other).size();
    }

    int rest(int one, int other, int k) {
        if (rests(one, other) == -1 || k < 0) {
            return -1;
        }
        List<Integer> found = allRests(one, other);
        return k < found.size() ? found.get(k) : -2;
    }

    int chance(int seed, int n, int person) {
        if (seed < 0 || n < 1 || n > 99 || !isPerson(person)) {
            return -1;
        }
        long last = seed;
        int times = 0;
        for (int i = 0; i < 10; i++) {
            Now s = now.copy();
            s.last = last;
            hours(s, n, true, -1, -1);
            last = s.last;
            times += s.said[person] ? 1 : 0;
        }
        return times;
    }

    int tried(int what, int i, int n) {
        if (what < 0 || what > 4 || n < 0 || n > 200 || (what == 2 ? !isPerson(i) : i != 0)) {
            return -1;
        }
        Now s = now.copy();
        if (what == 4) {
            for (int p = 0; p < people(); p++) {
                for (int o = 0; o < people(); o++) {
                    if (o != p) {
                        s.sees.get(p).add(o);
                    }
                }
            }
        }
        hours(s, n, false, what, i);
        return s.left.size();
    }

    int undo() {
        if (past.isEmpty()) {
            return -1;
        }
        now = past.pop();
        return past.size();
    }

    int keep() {
        image = now.copy();
        return now.hour;
    }

    int back() {
        if (image == null) {
            return -1;
        }
        now = image.copy();
        past.clear();
        return now.hour;
    }

    int count(int what) {
        int sum = 0;
        for (int p : now.prizes) {
            sum += p;
        }
        int[] all = {script.colours.size(), people(), script.facts.size(), script.tells.size(), script.asks.size(),
            script.knots, now.hour, now.left.size(), Integer.bitCount(knowBits(now)), how(now.said), sum,
            now.heard, now.lies, past.size()};
        return what >= 0 && what < all.length ? all[what] : -1;
    }
}
