import java.lang.reflect.InvocationTargetException;
import java.lang.reflect.Method;
import java.lang.reflect.Modifier;
import java.util.Arrays;
import java.util.Comparator;

/** What the tests have in common: comparing answers, telling texts, calling names, looking at all that can be read. */
abstract class Bench {
    static final int BAD = -1, STATE = -2, FULL = -3, NONE = -4;
    static final int[] FAR = {Integer.MIN_VALUE, -1000000, -2, -1, Integer.MAX_VALUE, 1000000};

    static int wrong = 0;
    /** The promise or the test that is running. */
    static String where = "";

    interface Making { GapProofs make(); }

    interface Call { int on(GapProofs x); }

    interface View { int[] of(GapProofs x); }

    static void due(String call, int got, int want) {
        if (got != want) {
            wrong++;
            System.out.println(where + ": " + call + " answered " + got + ", due is " + want);
        }
    }

    static void row(String call, int[] got, int... want) {
        due(call + " (how many)", got.length, want.length);
        for (int i = 0; i < Math.min(got.length, want.length); i++) due(call + " [" + i + "]", got[i], want[i]);
    }

    static void finish(String what) {
        System.out.println(what + (wrong == 0 ? ": all answers are as due" : ": " + wrong + " answers are not as due"));
        if (wrong != 0) System.exit(1);
    }

    /** Every method of the class whose name begins with terms or promise is a test. */
    static int runAll(Class<?> tests) {
        Method[] all = tests.getDeclaredMethods();
        Arrays.sort(all, Comparator.comparing(Method::getName));
        int ran = 0;
        for (Method m : all) {
            boolean named = m.getName().startsWith("terms") || m.getName().startsWith("promise");
            if (!named || m.getParameterCount() > 0 || !Modifier.isStatic(m.getModifiers())) continue;
            where = m.getName();
            ran++;
            try {
                m.setAccessible(true);
                m.invoke(null);
            } catch (IllegalAccessException | InvocationTargetException e) {
                wrong++;
                System.out.println(where + ": " + e + " by " + e.getCause());
            }
        }
        return ran;
    }

    // ---- telling

    static void write(GapProofs x, String s) {
        for (int i = 0; i < s.length(); i++) x.feed(s.charAt(i));
    }

    static int tell(GapProofs x, String s) {
        write(x, s);
        return x.text();
    }

    static GapProofs told(String s) {
        GapProofs x = new GapProofs();
        int lines = 0;
        for (int i = 0; i < s.length(); i++) if (s.charAt(i) == ';') lines++;
        due("text of " + s, tell(x, s), lines);
        return x;
    }

    static void faultOf(String s, int number, int place) {
        GapProofs x = new GapProofs();
        due("text of " + s, tell(x, s), -10 - place);
        due("fault of " + s, x.fault(), number);
        due("tape after " + s, x.rule(7), 0);
    }

    /** THE NAME as it is written in a text: LABEL 0 last. */
    static void call(GapProofs x, String dotted) {
        x.up(x.name(0));
        if (dotted.equals(".")) return;
        String[] labels = dotted.split("\\.");
        for (int i = labels.length - 1; i >= 0; i--) {
            String l = labels[i];
            if (l.equals("*")) x.label(27, 0, 0);
            else x.label(l.charAt(0) - 96, l.length() > 1 ? l.charAt(1) - 96 : 0, l.length() > 2 ? l.charAt(2) - 96 : 0);
        }
    }

    static int ask(GapProofs x, String dotted, int sort) {
        call(x, dotted);
        return x.ask(sort);
    }

    static int askAndCheck(GapProofs x, String dotted, int sort) {
        ask(x, dotted, sort);
        return x.check();
    }

    // ---- looking

    static int[] itemRow(GapProofs x, int i) {
        int[] r = new int[9];
        for (int w = 0; w < 9; w++) r[w] = x.item(i, w);
        return r;
    }

    static int[] entryRow(GapProofs x, int i) {
        int[] r = new int[7];
        for (int w = 0; w < 7; w++) r[w] = x.entry(i, w);
        return r;
    }

    /** ITEMS as 10 times the ZONE and the kind. */
    static int[] kinds(GapProofs x) {
        int[] r = new int[Math.max(0, x.rule(4))];
        for (int i = 0; i < r.length; i++) r[i] = 10 * x.item(i, 1) + x.item(i, 0);
        return r;
    }

    /** ENTRIES as 10 times the ZONE and 1 for KEYS. */
    static int[] entries(GapProofs x) {
        int[] r = new int[x.rule(5)];
        for (int i = 0; i < r.length; i++) r[i] = 10 * x.entry(i, 0) + x.entry(i, 1);
        return r;
    }

    static int[] rules(GapProofs x) {
        int[] r = new int[9];
        for (int w = 0; w < 9; w++) r[w] = x.rule(w);
        return r;
    }

    static int[] zoneRow(GapProofs x, int z) {
        int[] r = new int[8];
        for (int w = 0; w < 8; w++) r[w] = x.zone(z, w);
        return r;
    }

    static int[] nameRow(GapProofs x, String dotted) {
        call(x, dotted);
        int[] r = new int[7];
        for (int w = 0; w < 7; w++) r[w] = x.name(w);
        return r;
    }

    static int[] keyRow(GapProofs x, int z, int what) {
        int[] r = new int[0];
        for (int i = 0; i < 3 && x.key(z, i, what) >= 0; i++) r = with(r, x.key(z, i, what));
        return r;
    }

    static int mixed(int... numbers) {
        int h = 7;
        for (int n : numbers) h = (h * 31 + n) % 9973;
        return h;
    }

    static int[] with(int[] row, int... more) {
        int[] r = Arrays.copyOf(row, row.length + more.length);
        System.arraycopy(more, 0, r, row.length, more.length);
        return r;
    }

    static int[] letters(GapProofs x) {
        int[] r = {x.name(0)};
        for (int i = 0; i < r[0]; i++) for (int k = 0; k < 3; k++) r = with(r, x.letter(i, k));
        return r;
    }

    /** THE NAME as it is written in a text. */
    static String dotted(GapProofs x) {
        StringBuilder s = new StringBuilder();
        for (int i = x.name(0) - 1; i >= 0; i--) {
            if (s.length() > 0) s.append('.');
            for (int k = 0; k < 3 && x.letter(i, k) > 0; k++) s.append(x.letter(i, k) == 27 ? '*' : (char) (x.letter(i, k) + 96));
        }
        return s.length() == 0 ? "." : s.toString();
    }

    static String ownersOf(GapProofs x, int z) {
        StringBuilder s = new StringBuilder();
        for (int i = 0; x.owner(z, i) >= 0; i++) s.append(i == 0 ? "" : " ").append(dotted(x));
        return s.toString();
    }

    static void same(String call, String got, String want) {
        if (!got.equals(want)) {
            wrong++;
            System.out.println(where + ": " + call + " answered " + got + ", due is " + want);
        }
    }

    /** How many LABELS, and their letters, 0 behind each, LABEL 0 first. */
    static int[] lettersOf(String dotted) {
        if (dotted.equals(".")) return new int[] {0};
        String[] labels = dotted.split("\\.");
        int[] r = {labels.length};
        for (int i = labels.length - 1; i >= 0; i--) {
            for (char c : labels[i].toCharArray()) r = with(r, c == '*' ? 27 : c - 96);
            r = with(r, 0);
        }
        return r;
    }

    /** Kind, ZONE, SORT, A, B, C, KEY as numbers; no NEXT where it is no LINK. The NAMES are told by CONTENT and MARK alone. */
    static void itemIs(GapProofs x, int i, String owner, String next, int... n) {
        int[] o = lettersOf(owner), t = next == null ? new int[] {0} : lettersOf(next);
        row("item " + i, itemRow(x, i), n[0], n[1], o[0], next == null ? NONE : t[0], n[2], n[3], n[4], n[5], n[6]);
        int content = mixed(with(with(with(new int[] {n[0], n[1]}, o), t), n[2], n[3], n[4], n[5]));
        due("CONTENT of item " + i, x.item(i, 10), content);
        due("MARK of item " + i, x.item(i, 9), (int) ((content * (2L * n[6] + 1) + n[6]) % 9973));
    }

    static void linkIs(GapProofs x, int i, int zone, String owner, String next, int sorts, int key) {
        itemIs(x, i, owner, next, 3, zone, sorts, 0, 0, 0, key);
    }

    static void recordIs(GapProofs x, int i, int zone, String owner, int sort, int value, int key) {
        itemIs(x, i, owner, null, 2, zone, sort, value, 0, 0, key);
    }

    static void answerIs(GapProofs x, String dotted, int sort, int which, int value) {
        call(x, dotted);
        due("answer(" + sort + ", 0) to " + dotted, x.answer(sort, 0), which);
        due("answer(" + sort + ", 1) to " + dotted, x.answer(sort, 1), value);
    }

    static void checkIs(GapProofs x, String of, int outcome, int value, int zone, int came) {
        due("check() of " + of, x.check(), outcome);
        row("checked() of " + of, new int[] {x.checked(0), x.checked(1), x.checked(2)}, value, zone, came);
    }

    // ---- all that can be read

    static int[] atOnce(GapProofs x) {
        int[] r = with(rules(x), x.fault(), x.name(1), x.name(2), x.name(3), x.name(4), x.name(5), x.name(6));
        r = with(r, letters(x));
        for (int s = 0; s < 3; s++) for (int w = 0; w < 3; w++) r = with(r, x.answer(s, w));
        for (int z = 0; z < 4; z++) {
            r = with(r, zoneRow(x, z));
            for (int w = 0; w < 4; w++) r = with(r, keyRow(x, z, w));
        }
        return with(r, x.checked(0), x.checked(1), x.checked(2));
    }

    static int[] itemsAndEntries(GapProofs x) {
        int[] r = {x.rule(4)};
        for (int i = 0; i < r[0]; i++) r = with(with(r, itemRow(x, i)), x.item(i, 9), x.item(i, 10));
        r = with(r, x.rule(5));
        for (int i = 0; i < x.rule(5); i++) r = with(r, entryRow(x, i));
        return r;
    }

    static int[] ownersAndRecords(GapProofs x) {
        int[] r = {};
        for (int z = 0; z < x.rule(0); z++)
            for (int i = 0; x.owner(z, i) >= 0; i++)
                r = with(with(r, letters(x)), x.name(3), x.answer(0, 1), x.answer(1, 1), x.answer(2, 1));
        return r;
    }

    /** What THE TAPE holds is told by the text that it is. */
    static int[] byText(GapProofs x) {
        int[] r = {x.text(), x.fault()};
        return with(with(r, rules(x)), ownersAndRecords(x));
    }

    /** What THE PROOF was made for, and when, is told by a check(). */
    static int[] byCheck(GapProofs x) {
        int[] r = {x.check(), x.checked(0), x.checked(1), x.checked(2)};
        for (int i = 0; i < x.rule(5); i++) r = with(r, entryRow(x, i));
        return r;
    }

    static int[] byBack(GapProofs x, int k) {
        int[] r = {x.back(k)};
        return with(with(r, atOnce(x)), itemsAndEntries(x));
    }

    static int[] recordsByBack(GapProofs x, int k) {
        int[] r = {x.back(k)};
        return with(r, ownersAndRecords(x));
    }

    /** Each one looks at an object of its own: the promises end with its 512th call. */
    static final View[] VIEWS = {Bench::atOnce, Bench::itemsAndEntries, Bench::ownersAndRecords, Bench::byText, Bench::byCheck,
        x -> byBack(x, 0), x -> recordsByBack(x, 0), x -> byBack(x, 1), x -> recordsByBack(x, 1)};

    /** The call is refused, and all that can be read is as it is on an object on which it was not made. */
    static void refused(String call, Making made, Call c, int want) {
        for (int v = 0; v < VIEWS.length; v++) {
            GapProofs tried = made.make(), calm = made.make();
            int got = c.on(tried);
            if (v == 0) due(call, got, want);
            row(call + ", looked at by view " + v, VIEWS[v].of(tried), VIEWS[v].of(calm));
        }
    }
}
