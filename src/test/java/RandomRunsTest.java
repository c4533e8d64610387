import java.util.ArrayList;
import java.util.List;
import java.util.Map;
import java.util.Random;
import java.util.TreeMap;

/** Runs of calls drawn from a fixed seed, on GapProofs and on Model: every answer has to be the same. */
public final class RandomRunsTest {
    static final String[] CALLS = {"feed", "end", "text", "fault", "label", "up", "owner", "name", "letter", "zone",
        "key", "rule", "answer", "ask", "item", "lose", "alter", "rename", "sign", "check", "checked", "entry",
        "tick", "publish", "retire", "digest", "undigest", "why", "activate", "put", "remove", "keep", "back"};
    static final int FEED = 0, END = 1, TEXT = 2, FAULT = 3, LABEL = 4, UP = 5, OWNER = 6, NAME = 7, LETTER = 8,
        ZONE = 9, KEY = 10, RULE = 11, ANSWER = 12, ASK = 13, ITEM = 14, LOSE = 15, ALTER = 16, RENAME = 17, SIGN = 18,
        CHECK = 19, CHECKED = 20, ENTRY = 21, TICK = 22, PUBLISH = 23, RETIRE = 24, DIGEST = 25, UNDIGEST = 26,
        WHY = 27, ACTIVATE = 28, PUT = 29, REMOVE = 30, KEEP = 31, BACK = 32;

    private final Random random;
    private GapProofs x;
    private Model m;
    private List<String> log;
    private int wrong;
    private final Map<String, Integer> seen = new TreeMap<>();

    private RandomRunsTest(long seed) { random = new Random(seed); }

    public static void main(String[] args) {
        int runs = args.length > 0 ? Integer.parseInt(args[0]) : 3000;
        RandomRunsTest t = new RandomRunsTest(args.length > 1 ? Long.parseLong(args[1]) : 20261118L);
        for (int i = 0; i < runs && t.wrong == 0; i++) t.run(i);
        t.mustHaveSeen();
        if (args.length > 0) System.out.println(t.seen);
        System.out.println(t.wrong == 0 ? "random runs: all answers are as due" : "random runs: " + t.wrong + " wrong");
        if (t.wrong != 0) System.exit(1);
    }

    /** The draw is worth something only if every sort of ending was met. */
    private void mustHaveSeen() {
        List<String> wanted = new ArrayList<>();
        for (int v = 0; v <= 5; v++) wanted.add("check=" + v);
        for (int v = -24; v <= -21; v++) wanted.add("check=" + v);
        for (int v = 0; v <= 4; v++) wanted.add("answer=" + v);
        for (int v = 0; v <= 5; v++) wanted.add("fault=" + v);
        for (int v = 0; v <= 5; v++) wanted.add("why=" + v);
        for (String w : wanted) {
            if (wrong == 0 && !seen.containsKey(w)) {
                wrong++;
                System.out.println("never met: " + w);
            }
        }
    }

    private void call(int op, int a, int b, int c) {
        int got = onClass(op, a, b, c), due = onModel(op, a, b, c);
        log.add(CALLS[op] + "(" + a + ", " + b + ", " + c + ") = " + got);
        if (op == CHECK || op == FAULT || op == WHY || (op == ANSWER && b == 0)) seen.merge(CALLS[op] + "=" + got, 1, Integer::sum);
        if (got != due) {
            wrong++;
            if (wrong == 1) {
                StringBuilder fed = new StringBuilder();
                for (String line : log) {
                    if (line.startsWith("feed(")) fed.append((char) Integer.parseInt(line.substring(5, line.indexOf(','))));
                    else System.out.println(line);
                }
                System.out.println("fed: " + fed);
                System.out.println("the last one answered " + got + ", due is " + due);
            }
        }
    }

    private void call(int op, int a, int b) { call(op, a, b, 0); }

    private void call(int op, int a) { call(op, a, 0, 0); }

    private int below(int n) { return random.nextInt(n); }

    /** Mostly in 0 .. n - 1, at times just outside, at times far outside. */
    private int about(int n) {
        int r = below(60);
        if (r == 0) return -1;
        if (r == 1) return n;
        if (r == 2) return random.nextInt();
        return below(n);
    }

    private String word() {
        String[] w = {"a", "b", "c", "ab", "b", "a", "abc", "*", "*", "z"};
        return w[below(w.length)];
    }

    private String dotted() {
        if (below(12) == 0) return ".";
        StringBuilder s = new StringBuilder(word());
        int more = below(3) + (below(4) == 0 ? 1 : 0) + (below(40) == 0 ? 1 : 0);
        for (int i = 0; i < more; i++) s.append(below(20) == 0 ? " . " : ".").append(word());
        return s.toString();
    }

    private String line() {
        int r = below(60);
        if (r < 5) return "zone " + dotted() + ";";
        if (r < 8) return "plain " + dotted() + (below(9) == 0 ? " ;" : ";");
        if (r < 11) return "span " + (below(8) == 0 ? below(100) : 1 + below(9)) + ";";
        return "rec " + dotted() + " " + "atm".charAt(below(3)) + (below(3) == 0 ? "" : " ") + below(100) + ";";
    }

    /** ZONES each below the one before, so that proofs are long and the cache overflows. */
    private String chain() {
        StringBuilder s = new StringBuilder();
        String apex = word();
        int depth = 1 + below(3);
        for (int i = 0; i < depth; i++) {
            s.append(below(6) == 0 ? "plain " : "zone ").append(apex).append(';');
            apex = word() + "." + (below(6) == 0 ? word() : apex);
        }
        return s.toString();
    }

    private String script() {
        StringBuilder s = new StringBuilder();
        int lines = below(12);
        if (below(3) > 0) s.append(chain());
        for (int i = 0; i < lines; i++) s.append(line()).append(below(9) == 0 ? " " : "");
        if (below(4) == 0) {
            int edits = 1 + below(2);
            String signs = "abcz*.;  0123A{/:`\t\u0000";
            for (int i = 0; i < edits && s.length() > 0; i++) {
                int at = below(s.length());
                char c = signs.charAt(below(signs.length()));
                int how = below(3);
                if (how == 0) s.setCharAt(at, c);
                else if (how == 1) s.insert(at, c);
                else s.deleteCharAt(at);
            }
        }
        if (s.length() > 200 && below(8) > 0) {
            // Whole lines alone, so that it may well be taken.
            s.setLength(200);
            s.setLength(s.toString().lastIndexOf(';') + 1);
        }
        return s.toString();
    }

    private void tell() {
        String s = script();
        for (int i = 0; i < s.length(); i++) call(FEED, s.charAt(i));
        if (below(20) == 0) call(END, about(s.length() + 1));
        call(TEXT, 0);
        call(FAULT, 0);
    }

    private void aName() {
        call(UP, m.name.size());
        if (below(3) == 0) {
            call(OWNER, about(m.zones.size()), about(6));
            if (below(2) == 0) return;
        }
        int labels = below(4) + (below(4) == 0 ? 1 : 0);
        for (int i = 0; i < labels; i++) {
            if (below(40) == 0) call(LABEL, about(28), about(27), about(27));
            else {
                String w = word();
                call(LABEL, letter(w, 0), letter(w, 1), letter(w, 2));
            }
        }
    }

    private static int letter(String w, int k) { return k < w.length() ? Model.number(w.charAt(k)) : 0; }

    private int aKey(int z) {
        int r = below(12);
        if (r == 0) return new int[] {0, -1, 1000, 999, 1}[below(5)];
        if (r < 4 && z >= 0 && z < m.zones.size()) return m.zone(z, 7) > 0 ? m.zone(z, 7) : 10;
        return below(3) == 0 ? 10 + below(6) : 20 + below(2);
    }

    private void keys() {
        int z = about(m.zones.size()), k = aKey(z);
        int r = below(9);
        if (r == 0) {
            call(PUBLISH, z, k);
            time();
            call(DIGEST, z, k);
            time();
            call(WHY, z, k);
            return;
        }
        int[] ops = {PUBLISH, PUBLISH, RETIRE, DIGEST, DIGEST, UNDIGEST, WHY, WHY, ACTIVATE};
        call(ops[r], z, k);
    }

    private void time() {
        int r = below(30);
        call(TICK, r == 0 ? 1000000000 : r == 1 ? about(1000000001) : 1 + below(r < 20 ? 3 : 9));
    }

    private void tamper() {
        int n = m.proof == null ? 3 : Math.max(1, m.proof.size());
        int i = about(n);
        switch (below(7)) {
            case 0 -> call(LOSE, i);
            case 1, 2 -> {
                int what = 4 + about(6);
                int v = what == 4 ? about(64) : what == 9 ? about(9973) : what == 8 ? aKey(below(4)) : below(3) == 0 ? 0 : aKey(below(4));
                call(ALTER, i, what, v);
                if (below(3) > 0) call(SIGN, i);
            }
            case 3, 4 -> {
                if (below(2) == 0) aName();
                call(RENAME, i, about(2));
                if (below(3) > 0) call(SIGN, i);
            }
            case 5 -> call(SIGN, i);
            default -> {
                call(ALTER, i, 4, below(64));
                call(SIGN, i);
            }
        }
    }

    private void look() {
        switch (below(9)) {
            case 0 -> call(NAME, about(7));
            case 1 -> call(LETTER, about(4), about(3));
            case 2 -> call(ZONE, about(m.zones.size()), about(8));
            case 3 -> call(KEY, about(m.zones.size()), about(3), about(4));
            case 4 -> call(RULE, about(9));
            case 5 -> call(ITEM, about(6), about(11));
            case 6 -> call(CHECKED, about(3));
            case 7 -> call(ENTRY, about(4), about(7));
            default -> call(ANSWER, about(3), about(3));
        }
    }

    private void step() {
        int r = below(100);
        if (r < 14) aName();
        else if (r < 30) look();
        else if (r < 36) call(ANSWER, about(3), 0);
        else if (r < 48) {
            call(ASK, about(3));
            if (below(3) > 0) call(CHECK, 0);
        } else if (r < 60) call(CHECK, 0);
        else if (r < 70) tamper();
        else if (r < 76) time();
        else if (r < 86) keys();
        else if (r < 93) call(below(4) == 0 ? REMOVE : PUT, about(3), about(100));
        else if (r < 98) call(below(2) == 0 ? KEEP : BACK, about(2));
        else if (r == 98 && log.size() < 200 && below(2) == 0) tell();
        else call(FEED, about(128));
    }

    private void run(int number) {
        x = new GapProofs();
        m = new Model();
        log = new ArrayList<>();
        if (number % 10 > 0) tell();
        while (log.size() < 440 && wrong == 0) step();
        if (wrong == 0) lookAtAll();
    }

    private void lookAtAll() {
        for (int w = -1; w <= 9; w++) call(RULE, w);
        for (int w = -1; w <= 7; w++) call(NAME, w);
        for (int z = -1; z <= 4; z++) {
            for (int w = -1; w <= 8; w++) call(ZONE, z, w);
            for (int i = -1; i <= 3; i++) for (int w = -1; w <= 4; w++) call(KEY, z, i, w);
        }
        for (int i = -1; i <= 9; i++) for (int w = -1; w <= 11; w++) call(ITEM, i, w);
        for (int i = -1; i <= 4; i++) for (int w = -1; w <= 7; w++) call(ENTRY, i, w);
        for (int w = -1; w <= 3; w++) call(CHECKED, w);
        for (int s = -1; s <= 3; s++) for (int w = -1; w <= 3; w++) call(ANSWER, s, w);
        for (int z = 0; z < 4; z++) for (int i = 0; i < 28; i++) {
            call(OWNER, z, i);
            call(NAME, 3);
            for (int l = 0; l < 4; l++) for (int k = 0; k < 3; k++) call(LETTER, l, k);
        }
    }

    private int onClass(int op, int a, int b, int c) {
        return switch (op) {
            case FEED -> x.feed(a);
            case END -> x.end(a);
            case TEXT -> x.text();
            case FAULT -> x.fault();
            case LABEL -> x.label(a, b, c);
            case UP -> x.up(a);
            case OWNER -> x.owner(a, b);
            case NAME -> x.name(a);
            case LETTER -> x.letter(a, b);
            case ZONE -> x.zone(a, b);
            case KEY -> x.key(a, b, c);
            case RULE -> x.rule(a);
            case ANSWER -> x.answer(a, b);
            case ASK -> x.ask(a);
            case ITEM -> x.item(a, b);
            case LOSE -> x.lose(a);
            case ALTER -> x.alter(a, b, c);
            case RENAME -> x.rename(a, b);
            case SIGN -> x.sign(a);
            case CHECK -> x.check();
            case CHECKED -> x.checked(a);
            case ENTRY -> x.entry(a, b);
            case TICK -> x.tick(a);
            case PUBLISH -> x.publish(a, b);
            case RETIRE -> x.retire(a, b);
            case DIGEST -> x.digest(a, b);
            case UNDIGEST -> x.undigest(a, b);
            case WHY -> x.why(a, b);
            case ACTIVATE -> x.activate(a, b);
            case PUT -> x.put(a, b);
            case REMOVE -> x.remove(a);
            case KEEP -> x.keep(a);
            default -> x.back(a);
        };
    }

    private int onModel(int op, int a, int b, int c) {
        return switch (op) {
            case FEED -> m.feed(a);
            case END -> m.end(a);
            case TEXT -> m.text();
            case FAULT -> m.fault();
            case LABEL -> m.label(a, b, c);
            case UP -> m.up(a);
            case OWNER -> m.owner(a, b);
            case NAME -> m.name(a);
            case LETTER -> m.letter(a, b);
            case ZONE -> m.zone(a, b);
            case KEY -> m.key(a, b, c);
            case RULE -> m.rule(a);
            case ANSWER -> m.answer(a, b);
            case ASK -> m.ask(a);
            case ITEM -> m.item(a, b);
            case LOSE -> m.lose(a);
            case ALTER -> m.alter(a, b, c);
            case RENAME -> m.rename(a, b);
            case SIGN -> m.sign(a);
            case CHECK -> m.check();
            case CHECKED -> m.checked(a);
            case ENTRY -> m.entry(a, b);
            case TICK -> m.tick(a);
            case PUBLISH -> m.publish(a, b);
            case RETIRE -> m.retire(a, b);
            case DIGEST -> m.digest(a, b);
            case UNDIGEST -> m.undigest(a, b);
            case WHY -> m.why(a, b);
            case ACTIVATE -> m.activate(a, b);
            case PUT -> m.put(a, b);
            case REMOVE -> m.remove(a);
            case KEEP -> m.keep(a);
            default -> m.back(a);
        };
    }
}
