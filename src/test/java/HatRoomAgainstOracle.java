import java.nio.charset.StandardCharsets;
import java.util.ArrayList;
import java.util.List;
import java.util.NoSuchElementException;
import java.util.Random;

/** Drawn texts and calls (always the same ones), answered by HatRoom as by the slow Oracle. */
public final class HatRoomAgainstOracle {
    private static final String[] WORDS = Oracle.LANGUAGE.stream().sorted().toArray(String[]::new);
    private static final String[] SIGNS = {";", "(", ")", "<", "<=", "=", "<>", ">=", ">", "+", "-", "*", "/"};
    private static final String[] ODD = {"zzzzzzz", "A", "!", "\t", "\u00e9", "_", "1000", "7", "100", "99999",
        "100000", "10000", "9999", "0007", "99999999999", "colours", "orx", "=<", "> =", "< >"};

    private static int wrong = 0;
    private static long calls = 0;
    private static final int[] faults = new int[6];

    private final Random random;
    private final HatRoom room = new HatRoom();
    private final Oracle oracle = new Oracle();
    private final List<String> log = new ArrayList<>();
    private int colours;
    private int people;
    private int facts;

    private HatRoomAgainstOracle(long seed) {
        random = new Random(seed);
    }

    private void due(String call, long got, long want) {
        calls++;
        log.add(call + " = " + got);
        if (got != want && wrong++ < 10) {
            System.out.println("HatRoom and Oracle differ, the Oracle has " + want + ":");
            for (String line : log) {
                System.out.println("  " + line);
            }
        }
    }

    private int below(int n) {
        return random.nextInt(n);
    }

    private String pick(String... words) {
        return words[below(words.length)];
    }

    private String colour() {
        return "c" + (char) ('a' + below(colours));
    }

    private String who() {
        return "p" + (char) ('a' + below(people));
    }

    /** An F; the deeper, the plainer. */
    private void formula(List<String> out, int deep) {
        int kind = below(deep <= 0 ? 4 : 11);
        if (kind >= 4 && kind <= 6) {
            formula(out, deep - 1);
            out.add(pick("and", "or"));
            formula(out, deep - 1);
        } else if (kind == 7) {
            out.add("not");
            leafOrBracket(out, deep - 1);
        } else {
            leafOrBracket(out, deep);
        }
    }

    private void leafOrBracket(List<String> out, int deep) {
        int kind = below(deep <= 0 ? 4 : 8);
        if (kind == 3 && facts > 0) {
            out.add("as");
            out.add("f" + (char) ('a' + below(facts)));
        } else if (kind == 2 || people == 0 && kind < 4) {
            out.add("many");
            out.add(colour());
            out.add("" + below(people + 1));
        } else if (kind == 1) {
            out.add("own");
            out.add(who());
        } else if (kind == 0 || kind == 3) {
            out.add("hat");
            out.add(who());
            out.add(colour());
        } else if (kind == 4) {
            out.add("(");
            formula(out, deep - 1);
            out.add(")");
        } else if (kind == 5 && people > 0) {
            out.add("knows");
            out.add(who());
            leafOrBracket(out, deep - 1);
        } else {
            out.add(pick("all", "common"));
            leafOrBracket(out, deep - 1);
        }
    }

    private void value(List<String> out, int deep, boolean tight) {
        int kind = below(deep <= 0 ? 2 : 9);
        if (kind == 0 || kind == 2) {
            out.add("" + pick("0", "1", "2", "3", "7", "10", "50", "49", "30", "100", "9999"));
        } else if (kind == 1) {
            out.add(pick("hour", "left", "seen", "knew", "said", "told", "alike"));
        } else if (kind == 3) {
            out.add("(");
            value(out, deep - 1, false);
            out.add(")");
        } else if (kind <= 6 || tight) {
            value(out, deep - 1, true);
            out.add(pick("+", "-", "*", "/", "*"));
            value(out, deep - 1, true);
        } else if (kind == 7) {
            value(out, deep - 1, true);
            out.add(pick("<", "<=", "=", "<>", ">=", ">"));
            value(out, deep - 1, true);
        } else {
            if (below(2) == 0) {
                out.add("not");
            }
            value(out, deep - 1, true);
            out.add(pick("and", "or"));
            value(out, deep - 1, true);
        }
    }

    /** The lines of a text that mostly has no fault. */
    private List<String> drawText(int mostPeople) {
        List<String> out = new ArrayList<>();
        colours = 1 + below(3);
        people = below(mostPeople + 1);
        facts = 0;
        int[] stock = new int[colours];
        int[] hats = new int[people];
        for (int i = 0; i < people; i++) {
            hats[i] = below(colours);
            stock[hats[i]]++;
        }
        for (int c = 0; c < colours; c++) {
            // The Oracle is slow: a large room has few worlds more than it must.
            line(out, "colour", "c" + (char) ('a' + c), "" + Math.min(6, stock[c] + below(people > 4 ? 2 : 3)));
        }
        for (int i = 0; i < people; i++) {
            line(out, "person", "p" + (char) ('a' + i), "c" + (char) ('a' + hats[i]));
        }
        for (int i = 0; i < people; i++) {
            drawSees(out, i);
        }
        int wanted = below(6);
        for (int f = 0; f < wanted; f++) {
            out.add("fact");
            out.add("f" + (char) ('a' + f));
            formula(out, 1 + below(people > 4 ? 3 : 4));
            out.add(";");
            facts++;
        }
        drawRest(out);
        return out;
    }

    private void drawSees(List<String> out, int i) {
        int mask = random.nextInt(1 << people) & ~(1 << i);
        if (below(2) == 0) {
            mask = (1 << people) - 1 & ~(1 << i);
        }
        if (mask == 0 || below(6) == 0) {
            return;
        }
        out.add("sees");
        out.add("p" + (char) ('a' + i));
        for (int o = 0; o < people; o++) {
            if ((mask >> o & 1) != 0) {
                out.add("p" + (char) ('a' + o));
            }
        }
        out.add(";");
    }

    private void drawRest(List<String> out) {
        int hours = 1 + below(8);
        for (int t = below(5); t > 0 && facts > 0; t--) {
            line(out, "tell", "f" + (char) ('a' + below(facts)), "" + below(hours));
        }
        for (int t = below(6); t > 0; t--) {
            line(out, "ask", "" + (below(20) == 0 ? 99 : below(hours)));
        }
        if (below(2) == 0) {
            line(out, "shy", pick("0", "30", "49", "50", "70", "100"));
        }
        if (below(2) == 0) {
            line(out, "seed", "" + below(100000));
        }
        if (below(3) == 0) {
            out.add("law");
            out.add("prize");
            value(out, below(4), false);
            out.add(";");
        }
        if (below(3) == 0) {
            out.add("law");
            out.add("hush");
            value(out, below(4), false);
            out.add(";");
        }
    }

    private static void line(List<String> out, String... words) {
        for (String word : words) {
            out.add(word);
        }
        out.add(";");
    }

    /** Puts a fault or two into a text, most times. */
    private void mar(List<String> out) {
        for (int times = 1 + below(2); times > 0 && !out.isEmpty(); times--) {
            int at = below(out.size());
            switch (below(6)) {
                case 0:
                    out.remove(at);
                    break;
                case 1:
                    out.add(at, out.get(below(out.size())));
                    break;
                case 2:
                    out.set(at, pick(WORDS));
                    break;
                case 3:
                    out.set(at, pick(SIGNS));
                    break;
                case 4:
                    out.set(at, pick(ODD));
                    break;
                default:
                    out.set(at, out.get(below(out.size())));
                    break;
            }
        }
    }

    /** Tells too much, or something again, or of somebody who is nobody: whole lines stay as they must be. */
    private void overdo(List<String> out) {
        List<Integer> starts = new ArrayList<>();
        starts.add(0);
        for (int i = 0; i < out.size(); i++) {
            if (out.get(i).equals(";")) {
                starts.add(i + 1);
            }
        }
        int at = starts.get(below(starts.size()));
        List<String> more = new ArrayList<>();
        switch (below(6)) {
            case 0:
                for (int i = starts.get(below(starts.size())); i < out.size(); i++) {
                    more.add(out.get(i));
                    if (out.get(i).equals(";")) {
                        break;
                    }
                }
                out.addAll(at, more);
                break;
            case 1: {
                String word = pick("colour", "person", "fact", "tell", "ask");
                for (int i = 1 + below(13); i > 0; i--) {
                    String name = "x" + (char) ('a' + i);
                    String rest = word.equals("colour") ? "6" : word.equals("person") ? "xc" : "own";
                    line(more, word.equals("ask") ? new String[] {"ask", "1"} : word.equals("tell")
                            ? new String[] {"tell", "fa", "1"} : word.equals("fact")
                            ? new String[] {"fact", name, "many", "ca", "1"} : new String[] {word, name, rest});
                }
                out.addAll(at, more);
                break;
            }
            case 2: {
                int open = 6 + below(5);
                boolean fact = below(2) == 0;
                line(more, fact ? new String[] {"fact", "deep"} : new String[] {"law", pick("prize", "hush")});
                more.remove(more.size() - 1);
                for (int i = 0; i < open; i++) {
                    more.add("(");
                }
                line(more, fact ? new String[] {"many", "ca", "1"} : new String[] {"1"});
                more.remove(more.size() - 1);
                for (int i = 0; i < open + below(20) / 19; i++) {
                    more.add(")");
                }
                more.add(";");
                out.addAll(at, more);
                break;
            }
            case 3: {
                line(more, "law", pick("prize", "hush"), pick("1", "not 1", "hour"));
                more.remove(more.size() - 1);
                for (int i = 20 + below(24); i > 0; i--) {
                    more.add(pick("+", "-", "*", "/", "and", "or", "and not"));
                    more.add(pick("1", "10000", "9999", "left", "left", "seen", "(2)"));
                }
                more.add(";");
                out.addAll(at, more);
                break;
            }
            case 4: {
                line(more, "fact", "long", pick("not", "all", "common", "knows pa"));
                more.remove(more.size() - 1);
                for (int i = 40 + below(30); i > 0; i--) {
                    more.add(pick("all", "common", "all", "knows pa"));
                }
                line(more, "many", "ca", pick("1", "6", "7", "06"));
                out.addAll(at, more);
                break;
            }
            default: {
                for (int i = 0; i < out.size(); i++) {
                    if (Character.isDigit(out.get(i).charAt(0)) && below(6) == 0) {
                        out.set(i, pick("6", "7", "99", "100", "101", "99999", "100000", "9999", "10000", "0"));
                    } else if (out.get(i).length() == 2 && below(12) == 0) {
                        out.set(i, pick("pa", "pb", "pc", "ca", "cb", "fa", "fb", "zz"));
                    }
                }
                break;
            }
        }
    }

    private byte[] write(List<String> tokens) {
        StringBuilder b = new StringBuilder();
        boolean wide = below(4) == 0;
        for (String token : tokens) {
            boolean glue = b.length() > 0 && Character.isLetterOrDigit(b.charAt(b.length() - 1))
                    && Character.isLetterOrDigit(token.charAt(0));
            boolean signs = b.length() > 0 && "<>".indexOf(b.charAt(b.length() - 1)) >= 0
                    && "=>".indexOf(token.charAt(0)) >= 0;
            if (glue || signs && below(2) == 0 || wide && below(3) == 0) {
                b.append(pick(" ", "\n", "  "));
            }
            b.append(token);
        }
        return b.toString().getBytes(StandardCharsets.ISO_8859_1);
    }

    private void load(byte[] bytes) {
        log.add("-- " + new String(bytes, StandardCharsets.ISO_8859_1));
        for (int i = 0; i < bytes.length; i += 20) {
            int[] n = new int[5];
            for (int k = 0; k < 20; k++) {
                int sign = i + k < bytes.length ? bytes[i + k] & 255 : 32;
                n[k / 4] = n[k / 4] << 8 | sign;
            }
            due("feed", room.feed(n[0], n[1], n[2], n[3], n[4]), oracle.feed(n[0], n[1], n[2], n[3], n[4]));
        }
        int n = bytes.length;
        due("text(" + n + ")", room.text(n), oracle.text(n));
        due("fault(0)", room.fault(0), oracle.fault(0));
        due("fault(1)", room.fault(1), oracle.fault(1));
        faults[Math.max(0, Math.min(5, oracle.fault(0)))]++;
    }

    private int some(int near) {
        int kind = below(40);
        return kind == 0 ? -1 : kind == 1 ? near : kind == 2 ? Integer.MAX_VALUE : kind == 3 ? Integer.MIN_VALUE
                : below(Math.max(1, near));
    }

    private int hoursNear(int most) {
        int kind = below(12);
        return kind == 0 ? most : kind == 1 ? most + 1 : kind == 2 ? -1 : kind == 3 ? below(most) : below(8);
    }

    private void person(int p, int w) {
        long got = Long.MIN_VALUE;
        long want = Long.MIN_VALUE;
        try {
            got = room.person(p, w);
        } catch (IndexOutOfBoundsException e) {
            got = Long.MAX_VALUE;
        } catch (NoSuchElementException e) {
            got = Long.MAX_VALUE - 1;
        }
        try {
            want = oracle.person(p, w);
        } catch (IndexOutOfBoundsException e) {
            want = Long.MAX_VALUE;
        } catch (NoSuchElementException e) {
            want = Long.MAX_VALUE - 1;
        }
        due("person(" + p + ", " + w + ")", got, want);
    }

    private void ask() {
        int p = some(people);
        int q = some(people);
        int f = some(facts);
        switch (below(30)) {
            case 0:
                due("own(" + p + ")", room.own(p), oracle.own(p));
                break;
            case 1: {
                int k = some(10);
                due("world(" + k + ", " + p + ")", room.world(k, p), oracle.world(k, p));
                break;
            }
            case 2:
                due("real()", room.real(), oracle.real());
                break;
            case 3:
                due("is(" + f + ")", room.is(f), oracle.is(f));
                break;
            case 4:
                due("sure(" + p + ", " + f + ")", room.sure(p, f), oracle.sure(p, f));
                break;
            case 5:
                due("common(" + f + ")", room.common(f), oracle.common(f));
                break;
            case 6:
                due("depth(" + f + ")", room.depth(f), oracle.depth(f));
                break;
            case 7: {
                int w = some(2);
                due("law(" + w + ", " + p + ")", room.law(w, p), oracle.law(w, p));
                break;
            }
            case 8:
                due("tell(" + f + ")", room.tell(f), oracle.tell(f));
                break;
            case 9:
                due("ask()", room.ask(), oracle.ask());
                break;
            case 10:
                due("peep(" + p + ", " + q + ")", room.peep(p, q), oracle.peep(p, q));
                break;
            case 11: {
                int n = below(3) == 0 ? hoursNear(200) : below(3);
                due("go(" + n + ")", room.go(n), oracle.go(n));
                break;
            }
            case 12:
            case 13: {
                int n = hoursNear(200);
                int w = some(5);
                due("ahead(" + n + ", " + w + ", " + p + ")", room.ahead(n, w, p), oracle.ahead(n, w, p));
                break;
            }
            case 14:
                due("willKnow(" + p + ")", room.willKnow(p), oracle.willKnow(p));
                break;
            default:
                askMore(p, q, f);
                break;
        }
    }

    private void askMore(int p, int q, int f) {
        int w = some(3);
        switch (below(16)) {
            case 0:
                due("parts()", room.parts(), oracle.parts());
                break;
            case 1:
                due("rounds(" + w + ")", room.rounds(w), oracle.rounds(w));
                break;
            case 2:
                due("teach(" + p + ")", room.teach(p), oracle.teach(p));
                break;
            case 3:
                due("teachAll()", room.teachAll(), oracle.teachAll());
                break;
            case 4:
                due("look(" + p + ", " + w + ")", room.look(p, w), oracle.look(p, w));
                break;
            case 5:
                due("guess(" + p + ", " + w + ")", room.guess(p, w), oracle.guess(p, w));
                break;
            case 6:
                due("likely(" + f + ", " + w + ")", room.likely(f, w), oracle.likely(f, w));
                break;
            case 7:
                due("secret(" + p + ", " + q + ")", room.secret(p, q), oracle.secret(p, q));
                break;
            case 8:
                due("rests(" + p + ", " + q + ")", room.rests(p, q), oracle.rests(p, q));
                due("rest(" + p + ", " + q + ", " + w + ")", room.rest(p, q, w), oracle.rest(p, q, w));
                break;
            case 9: {
                int seed = below(10) == 0 ? some(5) : random.nextInt() >>> 1;
                int n = hoursNear(99);
                due("chance(" + seed + ", " + n + ", " + p + ")", room.chance(seed, n, p), oracle.chance(seed, n, p));
                break;
            }
            case 10: {
                int what = some(5);
                int i = what == 2 ? p : below(20) == 0 ? 1 : 0;
                int n = hoursNear(200);
                due("tried(" + what + ", " + i + ", " + n + ")", room.tried(what, i, n), oracle.tried(what, i, n));
                break;
            }
            case 11:
                due("undo()", room.undo(), oracle.undo());
                break;
            case 12:
                due("keep()", room.keep(), oracle.keep());
                break;
            case 13:
                due("back()", room.back(), oracle.back());
                break;
            case 14:
                person(p, some(6));
                break;
            default: {
                int c = some(14);
                due("count(" + c + ")", room.count(c), oracle.count(c));
                break;
            }
        }
    }

    private void all() {
        for (int c = 0; c < 14; c++) {
            due("count(" + c + ")", room.count(c), oracle.count(c));
        }
        for (int p = 0; p < people; p++) {
            for (int w = 0; w < 6; w++) {
                person(p, w);
            }
        }
        due("real()", room.real(), oracle.real());
    }

    private static void run(long seed, int mostPeople) {
        HatRoomAgainstOracle run = new HatRoomAgainstOracle(seed);
        run.log.add("-- run " + seed);
        for (int texts = 1 + run.below(4); texts > 0; texts--) {
            List<String> text = run.drawText(mostPeople);
            byte[] bytes = run.write(text);
            if (bytes.length > 700) {
                return;
            }
            run.load(bytes);
            for (int i = 0; i < 45; i++) {
                run.ask();
            }
            run.all();
        }
        if (run.below(4) == 0) {
            for (int i = 0; i < 24; i++) {
                run.due("ask()", run.room.ask(), run.oracle.ask());
                run.due("count(13)", run.room.count(13), run.oracle.count(13));
            }
            for (int i = 0; i < 22; i++) {
                run.due("undo()", run.room.undo(), run.oracle.undo());
            }
            run.all();
        }
        if (run.below(40) == 0) {
            run.goTillRefused();
        }
    }

    /** Hours go by until no more do, whichever the number. */
    private void goTillRefused() {
        for (int i = 0; i < 120; i++) {
            if (below(4) == 0) {
                due("ask()", room.ask(), oracle.ask());
            }
            int n = below(40) == 0 ? some(2) : i < 40 ? 200 : below(201);
            due("go(" + n + ")", room.go(n), oracle.go(n));
            due("count(13)", room.count(13), oracle.count(13));
        }
        all();
    }

    private static void runFaults(long seed) {
        HatRoomAgainstOracle run = new HatRoomAgainstOracle(seed);
        for (int i = 0; i < 40; i++) {
            List<String> text = run.drawText(6);
            if (run.below(2) == 0) {
                run.overdo(text);
            }
            if (run.below(3) == 0) {
                run.mar(text);
            }
            byte[] bytes = run.write(text);
            if (run.below(5) == 0 && bytes.length > 0) {
                bytes[run.below(bytes.length)] = (byte) run.below(256);
            }
            if (run.below(5) == 0) {
                bytes = java.util.Arrays.copyOf(bytes, run.below(bytes.length + 1));
            }
            if (bytes.length <= 700) {
                run.load(bytes);
                run.due("count(5)", run.room.count(5), run.oracle.count(5));
            }
            run.log.clear();
        }
    }

    public static void main(String[] args) {
        int runs = args.length > 0 ? Integer.parseInt(args[0]) : 2000;
        for (int i = 0; i < runs; i++) {
            run(i, 4);
        }
        for (int i = 0; i < runs / 25; i++) {
            run(1000000 + i, 6);
        }
        for (int i = 0; i < runs / 2; i++) {
            runFaults(2000000 + i);
        }
        System.out.println(calls + " drawn calls, texts by fault 0 .. 5: " + java.util.Arrays.toString(faults));
        System.out.println(wrong == 0 ? "all answers are as the Oracle's" : wrong + " answers differ");
        if (wrong != 0) {
            System.exit(1);
        }
    }
}
