/** For each promise of the document: ordinary inputs, the edges it names, and wrong inputs, with the answers by hand. */
public final class PromisesTest extends Bench {
    public static void main(String[] args) {
        newObject();
        feed();
        end();
        text();
        textFaults();
        textKeepsWhatWasTold();
        fault();
        label();
        up();
        owner();
        name();
        nameOrder();
        letter();
        zone();
        key();
        rule();
        answer();
        ask();
        item();
        itemMarks();
        lose();
        alter();
        rename();
        sign();
        check();
        checkBroken();
        checkTampered();
        checkStarAndGap();
        checkPlain();
        checkFirstItem();
        checked();
        entry();
        entryOrder();
        cacheSpan();
        tick();
        publish();
        retire();
        digest();
        undigest();
        why();
        activate();
        rollover();
        put();
        remove();
        keep();
        back();
        finish("promises");
    }

    // ---- 1

    private static void newObject() {
        where = "promise 1";
        GapProofs x = new GapProofs();
        row("rule", rules(x), 1, 0, 0, 10, NONE, 0, 0, 0, 0);
        row("zone 0", zoneRow(x, 0), 1, NONE, 0, 1, 0, 1, 1, 10);
        due("zone(1, 0)", x.zone(1, 0), BAD);
        due("key(0, 0, 0)", x.key(0, 0, 0), 10);
        due("key(0, 0, 1)", x.key(0, 0, 1), 10);
        due("key(0, 0, 2)", x.key(0, 0, 2), 0);
        due("key(0, 0, 3)", x.key(0, 0, 3), 0);
        due("key(0, 1, 0)", x.key(0, 1, 0), NONE);
        due("name(0)", x.name(0), 0);
        due("fault()", x.fault(), 0);
        due("check()", x.check(), STATE);
        due("checked(0)", x.checked(0), STATE);
        due("back(0)", x.back(0), STATE);
        due("BAD", GapProofs.BAD, -1);
        due("STATE", GapProofs.STATE, -2);
        due("FULL", GapProofs.FULL, -3);
        due("NONE", GapProofs.NONE, -4);
        GapProofs y = new GapProofs();
        y.feed('z');
        y.label(1, 0, 0);
        y.tick(5);
        due("another object's tape", x.rule(7), 0);
        due("another object's name", x.name(0), 0);
        due("another object's clock", x.rule(2), 0);
    }

    // ---- 2 to 5

    private static void feed() {
        where = "promise 2";
        GapProofs x = new GapProofs();
        for (int c : FAR) due("feed far", x.feed(c), BAD);
        due("feed(128)", x.feed(128), BAD);
        due("feed(0)", x.feed(0), 1);
        due("feed(127)", x.feed(127), 2);
        for (int i = 3; i <= 200; i++) due("feed(32)", x.feed(32), i);
        due("feed beyond 200", x.feed(32), FULL);
        due("feed(128) when full", x.feed(128), BAD);
        due("rule(7)", x.rule(7), 200);
        due("end(199)", x.end(199), 200);
        due("feed(59)", x.feed(59), 200);
    }

    private static void end() {
        where = "promise 3";
        GapProofs x = new GapProofs();
        due("end(1) of none", x.end(1), BAD);
        due("end(0) of none", x.end(0), 0);
        String s = "span 5;x";
        for (int i = 0; i < s.length(); i++) x.feed(s.charAt(i));
        due("end(9)", x.end(9), BAD);
        due("end(-1)", x.end(-1), BAD);
        due("end far", x.end(Integer.MIN_VALUE), BAD);
        due("end(8)", x.end(8), 8);
        due("end(7)", x.end(7), 8);
        due("rule(7)", x.rule(7), 7);
        due("text()", x.text(), 1);
        due("rule(3)", x.rule(3), 5);
    }

    private static void text() {
        where = "promise 4";
        GapProofs x = new GapProofs();
        due("empty", x.text(), 0);
        due("blanks", tell(x, "    "), 0);
        due("no blanks", tell(x, "rec*.*a1;rec.t2;zone*;"), 3);
        row("rule", rules(x), 2, 2, 0, 10, NONE, 0, 0, 0, 0);
        due("many blanks", tell(x, "  zone   b  .  a  ;  span  7  ;  rec  b . a  m  09 ;   "), 3);
        due("span", x.rule(3), 7);
        call(x, "b.a");
        due("value", x.answer(2, 1), 9);
        due("zone of it", x.name(1), 1);
        due("span not told is 10 again", tell(x, "plain a;"), 1);
        due("span", x.rule(3), 10);
        row("zone 1", zoneRow(x, 1), 0, 0, 1, 1, 0, 0, 0, NONE);
        due("span 60", tell(x, "span 60;"), 1);
        due("rule(3)", x.rule(3), 60);
        due("rule(0)", x.rule(0), 1);
        due("span 1", tell(x, "span 01;"), 1);
        due("rule(3)", x.rule(3), 1);
        due("four labels of three", tell(x, "rec abc.def.ghi.xyz a 0;"), 1);
        due("owner(0, 1)", x.owner(0, 1), 4);
        due("letter(0, 0)", x.letter(0, 0), 24);
        due("letter(3, 2)", x.letter(3, 2), 3);
        textAnew();
    }

    private static void textAnew() {
        GapProofs x = told("zone a;rec b.a a 3;");
        x.publish(0, 20);
        x.digest(0, 20);
        x.activate(0, 20);
        x.publish(1, 21);
        x.tick(9);
        call(x, "b.a");
        x.ask(0);
        x.check();
        x.keep(0);
        due("the same anew", tell(x, "zone a;rec b.a a 3;"), 2);
        row("rule", rules(x), 2, 1, 0, 10, NONE, 0, 0, 0, 0);
        row("zone 0", zoneRow(x, 0), 1, NONE, 0, 2, 0, 1, 1, 10);
        row("zone 1", zoneRow(x, 1), 1, 0, 1, 2, 1, 1, 1, 11);
        due("the name", x.name(0), 0);
        due("checked(0)", x.checked(0), STATE);
        due("back(0)", x.back(0), STATE);
    }

    private static void textFaults() {
        where = "promise 4";
        faultOf("A", 1, 0);
        faultOf("zone a,", 1, 6);
        faultOf("zone aB;", 1, 6);
        faultOf("span 100;", 1, 5);
        faultOf("span 1000", 1, 5);
        faultOf("zone 123;", 1, 5);
        faultOf("span 1\t;", 1, 6);
        faultOf("rec a a 1;{", 1, 10);
        faultOf("rec a.`", 1, 6);
        faultOf("/", 1, 0);
        faultOf(":", 1, 0);
        faultOf("zones a;", 2, 0);
        faultOf("zon a;", 2, 0);
        faultOf(" ;", 2, 1);
        faultOf("zone", 2, 4);
        faultOf("zone  ", 2, 6);
        faultOf("zone a", 2, 6);
        faultOf("zone a  ", 2, 8);
        faultOf("zone a.", 2, 7);
        faultOf("zone a.;", 2, 7);
        faultOf("zone a..b;", 2, 7);
        faultOf("zone .a;", 2, 6);
        faultOf("zone ..;", 2, 6);
        faultOf("zone a b;", 2, 7);
        faultOf("zone 1;", 2, 5);
        faultOf("zone;", 2, 4);
        faultOf("zone a*;", 2, 6);
        faultOf("plain a 1;", 2, 8);
        faultOf("rec a 1;", 2, 6);
        faultOf("rec a;", 2, 5);
        faultOf("rec a b 1;", 2, 6);
        faultOf("rec a at 1;", 2, 6);
        faultOf("rec a a;", 2, 7);
        faultOf("rec a a a;", 2, 8);
        faultOf("rec a a 1 1;", 2, 10);
        faultOf("rec a a 1", 2, 9);
        faultOf("span;", 2, 4);
        faultOf("span a;", 2, 5);
        faultOf("span 5", 2, 6);
        faultOf("span 5 5;", 2, 7);
        faultOf("a;", 2, 0);
        faultOf("12", 2, 0);
        faultOf("*", 2, 0);
        faultOf("zone abcd;", 3, 5);
        faultOf("zone abc.abcd", 3, 9);
        faultOf("zone abcd,", 3, 5);
        faultOf("rec a.b.c.d.e a 1;", 3, 12);
        faultOf("rec a.b.c.d.*,", 3, 12);
        faultOf("rec a.b.c.d.;", 2, 12);
        faultOf("rec a.b.c.d.1;", 2, 12);
        faultOf("span 0;", 3, 5);
        faultOf("span 00;", 3, 5);
        faultOf("span 61;", 3, 5);
        faultOf("span 99,", 3, 5);
        faultOf("zone a;zone b;plain c;plain d;", 4, 22);
        faultOf("zone a;zone b;plain c; zone ,", 4, 23);
        faultOf("span 5;span 5;", 4, 7);
        faultOf("span 5; span ,", 4, 8);
        faultOf("zone .;", 5, 6);
        faultOf("plain . ;", 5, 8);
        faultOf("zone a;plain a;", 5, 14);
        faultOf("rec a a 1;rec a a 1;", 5, 19);
        faultOf("rec . m 1;rec .m1 ;", 5, 18);
        due("one name, two sorts", tell(new GapProofs(), "rec a a 1;rec a t 1;rec a m 1;rec .a1;rec*a1;"), 5);
        due("three zones", tell(new GapProofs(), "zone a;zone b;plain c;rec a a 1;"), 4);
    }

    private static void textKeepsWhatWasTold() {
        where = "promise 4";
        GapProofs x = told("zone a;rec b.a t 7;span 4;");
        x.tick(3);
        call(x, "b.a");
        x.ask(1);
        x.check();
        x.keep(1);
        due("a text with a fault", tell(x, "plain c;rec d a 1;span 9;zone .;"), -10 - 31);
        row("rule", rules(x), 2, 1, 3, 4, 4, 3, 3, 0, 1);
        due("the name", x.name(0), 2);
        due("value", x.answer(1, 1), 7);
        due("checked(0)", x.checked(0), 7);
        due("zone(1, 0)", x.zone(1, 0), 1);
    }

    private static void fault() {
        where = "promise 5";
        GapProofs x = new GapProofs();
        due("fault() at first", x.fault(), 0);
        tell(x, "span 61;");
        due("fault()", x.fault(), 3);
        x.feed('a');
        x.end(0);
        x.keep(0);
        x.back(0);
        due("fault() still", x.fault(), 3);
        tell(x, "q");
        due("fault()", x.fault(), 2);
        tell(x, "");
        due("fault() of a text that is taken", x.fault(), 0);
    }

    // ---- 6 to 10

    private static void label() {
        where = "promise 6";
        GapProofs x = new GapProofs();
        due("label(0, 0, 0)", x.label(0, 0, 0), BAD);
        due("label(0, 1, 0)", x.label(0, 1, 0), BAD);
        due("label(1, 0, 1)", x.label(1, 0, 1), BAD);
        due("label(1, 27, 0)", x.label(1, 27, 0), BAD);
        due("label(1, 1, 27)", x.label(1, 1, 27), BAD);
        due("label(27, 1, 0)", x.label(27, 1, 0), BAD);
        due("label(27, 0, 1)", x.label(27, 0, 1), BAD);
        due("label(28, 0, 0)", x.label(28, 0, 0), BAD);
        for (int c : FAR) {
            due("label far a", x.label(c, 1, 1), BAD);
            due("label far b", x.label(1, c, 1), BAD);
            due("label far c", x.label(1, 1, c), BAD);
        }
        due("label(1, 0, 0)", x.label(1, 0, 0), 1);
        due("label(27, 0, 0)", x.label(27, 0, 0), 2);
        due("label(26, 26, 26)", x.label(26, 26, 26), 3);
        due("label(3, 4, 0)", x.label(3, 4, 0), 4);
        due("a fifth", x.label(1, 0, 0), FULL);
        due("a fifth that is not as told", x.label(0, 0, 0), BAD);
        due("name(0)", x.name(0), 4);
        due("letter(0, 0)", x.letter(0, 0), 1);
        due("letter(1, 0)", x.letter(1, 0), 27);
        due("letter(2, 2)", x.letter(2, 2), 26);
        due("letter(3, 1)", x.letter(3, 1), 4);
    }

    private static void up() {
        where = "promise 7";
        GapProofs x = new GapProofs();
        due("up(0) of the root", x.up(0), 0);
        due("up(1) of the root", x.up(1), BAD);
        call(x, "d.c.b.a");
        for (int n : FAR) due("up far", x.up(n), BAD);
        due("up(5)", x.up(5), BAD);
        due("up(0)", x.up(0), 4);
        due("up(1)", x.up(1), 3);
        due("letter(2, 0)", x.letter(2, 0), 3);
        due("label", x.label(5, 0, 0), 4);
        due("letter(3, 0)", x.letter(3, 0), 5);
        due("letter(0, 0)", x.letter(0, 0), 1);
        due("up(4)", x.up(4), 0);
    }

    private static void owner() {
        where = "promise 8";
        GapProofs x = told("zone b;rec a a 1;rec c.b a 1;rec * a 1;rec b t 4;rec ab t 5;rec b.a m 1;");
        for (int n : FAR) due("owner far z", x.owner(n, 0), BAD);
        due("owner(2, 0)", x.owner(2, 0), BAD);
        due("owner(0, -1)", x.owner(0, -1), BAD);
        due("owner(-1, 99)", x.owner(-1, 99), BAD);
        due("owner(0, 6)", x.owner(0, 6), NONE);
        due("owner far i", x.owner(1, Integer.MAX_VALUE), NONE);
        // Root, *, a, b.a, ab, b: by ORDER, with what lies IN the ZONE below left out.
        int[][] letters = {{}, {27, 0}, {1, 0}, {1, 0, 2, 0}, {1, 2}, {2, 0}};
        for (int i = 0; i < letters.length; i++) {
            due("owner(0, " + i + ")", x.owner(0, i), letters[i].length / 2);
            for (int l = 0; l < letters[i].length; l++) due("letter of owner " + i, x.letter(l / 2, l % 2), letters[i][l]);
        }
        due("owner(1, 0)", x.owner(1, 0), 1);
        due("owner(1, 1)", x.owner(1, 1), 2);
        due("letter(1, 0)", x.letter(1, 0), 3);
        due("owner(1, 2)", x.owner(1, 2), NONE);
        due("the name stays", x.letter(1, 0), 3);
    }

    private static void name() {
        where = "promise 9";
        GapProofs x = told("zone b.a;plain d;rec c.b.a a 1;rec b.a m 2;rec x.d t 1;rec e.f.g a 1;rec g t 1;rec g a 1;");
        for (int n : FAR) due("name far", x.name(n), BAD);
        due("name(7)", x.name(7), BAD);
        row("name .", nameRow(x, "."), 0, 0, 1, 32, 0, 0, 0);
        row("name a", nameRow(x, "a"), 1, 0, 1, 0, NONE, 1, 1);
        row("name b.a", nameRow(x, "b.a"), 2, 1, 1, 36, 0, 0, 2);
        row("name c.b.a", nameRow(x, "c.b.a"), 3, 1, 1, 1, 1, 1, 3);
        row("name z.c.b.a", nameRow(x, "z.c.b.a"), 4, 1, 0, 0, NONE, 2, 3);
        row("name d", nameRow(x, "d"), 1, 2, 1, 32, 0, 0, 1);
        row("name x.d", nameRow(x, "x.d"), 2, 2, 1, 2, 1, 1, 2);
        row("name g", nameRow(x, "g"), 1, 0, 1, 3, 3, 3, 1);
        row("name f.g", nameRow(x, "f.g"), 2, 0, 1, 0, NONE, 4, 2);
        row("name e.f.g", nameRow(x, "e.f.g"), 3, 0, 1, 1, 4, 4, 3);
        row("name z.e.f.g", nameRow(x, "z.e.f.g"), 4, 0, 0, 0, NONE, 5, 3);
        row("name q.e.h", nameRow(x, "q.e.h"), 3, 0, 0, 0, NONE, 5, 0);
        row("name x.x.g", nameRow(x, "x.x.g"), 3, 0, 0, 0, NONE, 5, 1);
        row("name c.a", nameRow(x, "c.a"), 2, 0, 0, 0, NONE, 2, 1);
        // A ZONE told later lies between two others.
        GapProofs y = told("zone c.b.a;zone a;plain b.a;");
        due("zone(1, 1)", y.zone(1, 1), 3);
        due("zone(3, 1)", y.zone(3, 1), 2);
        row("name c.b.a", nameRow(y, "c.b.a"), 3, 1, 1, 32, 0, 0, 3);
    }

    private static void nameOrder() {
        where = "promise 9";
        GapProofs x = new GapProofs();
        String[] ordered = {"*", "*.*", "a.*", "a", "*.a", "a.a", "z.a", "aa", "aaa", "a.aaa", "aab", "ab", "b"};
        for (int i = ordered.length - 1; i >= 0; i--) {
            call(x, ordered[i]);
            due("put", x.put(0, i), NONE);
        }
        for (int i = 0; i < ordered.length; i++) {
            call(x, ordered[i]);
            due("which owner is " + ordered[i], x.name(4), i + 1);
            due("owners ahead of " + ordered[i], x.name(5), i + 1);
            x.owner(0, i + 1);
            due("value of owner " + (i + 1), x.answer(0, 1), i);
        }
    }

    private static void letter() {
        where = "promise 10";
        GapProofs x = new GapProofs();
        due("letter(0, 0) of the root", x.letter(0, 0), BAD);
        call(x, "*.xy.a");
        for (int n : FAR) {
            due("letter far i", x.letter(n, 0), BAD);
            due("letter far k", x.letter(0, n), BAD);
        }
        due("letter(3, 0)", x.letter(3, 0), BAD);
        due("letter(0, 3)", x.letter(0, 3), BAD);
        int[] want = {1, 0, 0, 24, 25, 0, 27, 0, 0};
        for (int i = 0; i < 9; i++) due("letter(" + i / 3 + ", " + i % 3 + ")", x.letter(i / 3, i % 3), want[i]);
    }

    // ---- 11 to 13

    private static void zone() {
        where = "promise 11";
        GapProofs x = told("zone a;plain b.a;zone c.b.a;rec a a 1;rec b.a a 1;rec c.b.a t 1;rec x.c.b.a t 1;rec d t 1;");
        row("zone 0", zoneRow(x, 0), 1, NONE, 0, 3, 1, 1, 1, 10);
        row("zone 1", zoneRow(x, 1), 1, 0, 1, 2, 1, 1, 1, 11);
        row("zone 2", zoneRow(x, 2), 0, 1, 2, 2, 1, 0, 0, NONE);
        row("zone 3", zoneRow(x, 3), 1, 2, 3, 2, 2, 1, 1, 13);
        for (int n : FAR) {
            due("zone far z", x.zone(n, 0), BAD);
            due("zone far what", x.zone(0, n), BAD);
        }
        due("zone(4, 0)", x.zone(4, 0), BAD);
        due("zone(0, 8)", x.zone(0, 8), BAD);
        x.publish(3, 5);
        x.digest(3, 5);
        x.digest(0, 6);
        x.activate(3, 5);
        due("zone(3, 5)", x.zone(3, 5), 2);
        due("zone(3, 6)", x.zone(3, 6), 2);
        due("zone(3, 7)", x.zone(3, 7), 5);
        due("zone(0, 6)", x.zone(0, 6), 2);
    }

    private static void key() {
        where = "promise 12";
        GapProofs x = told("zone a;plain b;");
        x.tick(4);
        x.publish(1, 999);
        x.tick(1);
        x.publish(1, 1);
        x.digest(1, 7);
        x.digest(0, 3);
        int[] want = {1, 7, 5, 5, 11, 11, 0, 0, 999, NONE, 4, NONE, NONE, NONE, NONE, NONE};
        for (int i = 0; i < 16; i++) due("key(1, " + i / 4 + ", " + i % 4 + ")", x.key(1, i / 4, i % 4), want[i]);
        due("key(0, 0, 1)", x.key(0, 0, 1), 3);
        due("key(0, 0, 3)", x.key(0, 0, 3), 5);
        due("key(0, 1, 1)", x.key(0, 1, 1), 10);
        due("key(2, 0, 0)", x.key(2, 0, 0), NONE);
        due("key(2, 0, 1)", x.key(2, 0, 1), NONE);
        for (int n : FAR) {
            due("key far z", x.key(n, 0, 0), BAD);
            due("key far what", x.key(0, 0, n), BAD);
        }
        due("key(3, 0, 0)", x.key(3, 0, 0), BAD);
        due("key(0, 0, 4)", x.key(0, 0, 4), BAD);
        due("key(0, -1, 0)", x.key(0, -1, 0), BAD);
        due("key(0, far, 0)", x.key(0, Integer.MAX_VALUE, 0), NONE);
        due("key(0, far, 4)", x.key(0, Integer.MAX_VALUE, 4), BAD);
    }

    private static void rule() {
        where = "promise 13";
        GapProofs x = told("zone a;zone b;rec a a 1;span 3;");
        x.tick(2);
        call(x, "a");
        x.ask(0);
        x.check();
        x.feed(1);
        x.keep(1);
        row("rule", rules(x), 3, 1, 2, 3, 4, 3, 3, 1, 1);
        x.tick(2);
        call(x, "b");
        x.ask(0);
        x.tick(1);
        x.check();
        x.keep(0);
        x.keep(0);
        // KEYS 0 from the new proof, too: those of the first one had ended.
        row("rule", rules(x), 3, 1, 5, 3, 4, 4, 3, 1, 2);
        while (x.rule(4) > 0) x.lose(0);
        due("a proof without items", x.rule(4), 0);
        for (int n : FAR) due("rule far", x.rule(n), BAD);
        due("rule(9)", x.rule(9), BAD);
    }

    // ---- 14 to 23

    private static void answerOf(GapProofs x, String n, int sort, int which, int value, int signed) {
        call(x, n);
        due("answer(" + sort + ", 0) to " + n, x.answer(sort, 0), which);
        due("answer(" + sort + ", 1) to " + n, x.answer(sort, 1), value);
        due("answer(" + sort + ", 2) to " + n, x.answer(sort, 2), signed);
    }

    private static void answer() {
        where = "promise 14";
        GapProofs x = told("zone a;plain p;zone s.p;rec b.a t 5;rec *.c.a m 7;rec c.p a 8;rec y.*.d.a a 1;rec . a 0;");
        answerOf(x, "b.a", 1, 0, 5, 1);
        answerOf(x, "b.a", 0, 1, NONE, 1);
        answerOf(x, "c.a", 2, 1, NONE, 1);
        answerOf(x, "x.c.a", 2, 2, 7, 1);
        answerOf(x, "y.x.c.a", 2, 2, 7, 1);
        answerOf(x, "x.c.a", 0, 3, NONE, 1);
        answerOf(x, "*.c.a", 2, 0, 7, 1);
        answerOf(x, "*.c.a", 1, 1, NONE, 1);
        answerOf(x, "x.*.c.a", 2, 4, NONE, 1);
        answerOf(x, "e.a", 0, 4, NONE, 1);
        answerOf(x, "c.p", 0, 0, 8, 0);
        answerOf(x, "s.p", 0, 1, NONE, 0);
        answerOf(x, "q.s.p", 0, 4, NONE, 0);
        answerOf(x, ".", 0, 0, 0, 1);
        answerOf(x, ".", 1, 1, NONE, 1);
        answerOf(x, "a", 1, 1, NONE, 1);
        // *.d.a is ABOVE an OWNER, but none itself.
        answerOf(x, "*.d.a", 0, 1, NONE, 1);
        answerOf(x, "x.d.a", 0, 4, NONE, 1);
        for (int n : FAR) {
            due("answer far sort", x.answer(n, 0), BAD);
            due("answer far what", x.answer(0, n), BAD);
        }
        due("answer(3, 0)", x.answer(3, 0), BAD);
        due("answer(0, 3)", x.answer(0, 3), BAD);
        answerAtStarZones();
    }

    private static void answerAtStarZones() {
        // The STAR is a ZONE of its own: an OWNER here, but its RECORD lies IN that ZONE.
        GapProofs x = told("zone a;zone *.a;rec *.a a 4;rec x.*.a t 6;");
        answerOf(x, "*.a", 0, 0, 4, 1);
        answerOf(x, "b.a", 0, 3, NONE, 1);
        answerOf(x, "b.a", 1, 3, NONE, 1);
        answerOf(x, "x.*.a", 1, 0, 6, 1);
        call(x, "b.a");
        due("ask(0)", x.ask(0), 5);
        row("kinds", kinds(x), 1, 10, 11, 13, 13);
        due("sorts of the star's link", x.item(3, 4), 24);
        due("check()", x.check(), 3);
    }

    private static void ask() {
        where = "promise 15";
        GapProofs x = told("zone a;zone b.a;plain c.b.a;rec d.b.a a 1;rec x.c.b.a a 1;rec *.e.b.a t 2;rec g.f.b.a t 2;rec h t 3;");
        for (int n : FAR) due("ask far", x.ask(n), BAD);
        due("ask(3)", x.ask(3), BAD);
        due("rule(4)", x.rule(4), NONE);
        call(x, "d.b.a");
        due("ask FOUND", x.ask(0), 6);
        row("kinds", kinds(x), 1, 10, 11, 20, 21, 22);
        due("ask NO SORT", x.ask(1), 6);
        row("kinds", kinds(x), 1, 10, 11, 20, 21, 23);
        row("the link", itemRow(x, 5), 3, 2, 3, 4, 1, 0, 0, 0, 12);
        call(x, "f.b.a");
        due("ask NO SORT of one that is no owner", x.ask(1), 6);
        row("the link", itemRow(x, 5), 3, 2, 4, 4, 2, 0, 0, 0, 12);
        call(x, "z.e.b.a");
        due("ask WILD", x.ask(1), 7);
        row("kinds", kinds(x), 1, 10, 11, 20, 21, 22, 23);
        row("the star's record", itemRow(x, 5), 2, 2, 4, NONE, 1, 2, 0, 0, 12);
        row("the link", itemRow(x, 6), 3, 2, 4, 4, 2, 0, 0, 0, 12);
        due("ask WILD NO SORT: one link twice", x.ask(0), 7);
        row("the first", itemRow(x, 5), 3, 2, 4, 4, 2, 0, 0, 0, 12);
        row("the second", itemRow(x, 6), 3, 2, 4, 4, 2, 0, 0, 0, 12);
        call(x, "c.b.a");
        due("ask in a PLAIN zone", x.ask(0), 6);
        row("kinds", kinds(x), 1, 10, 11, 20, 21, 23);
        row("the link", itemRow(x, 5), 3, 2, 3, 3, 8, 0, 0, 0, 12);
        call(x, "z");
        due("ask NO NAME by two links", x.ask(0), 3);
        row("kinds", kinds(x), 1, 3, 3);
        row("it covers the name", itemRow(x, 1), 3, 0, 1, 0, 2, 0, 0, 0, 10);
        row("it covers the star", itemRow(x, 2), 3, 0, 0, 1, 32, 0, 0, 0, 10);
        call(x, "*");
        due("ask NO NAME by one link", x.ask(0), 2);
        row("kinds", kinds(x), 1, 3);
        askStays();
    }

    private static void askStays() {
        GapProofs x = told("rec b a 1;");
        call(x, "b");
        x.tick(3);
        x.ask(0);
        x.put(0, 50);
        x.publish(0, 20);
        x.activate(0, 20);
        x.up(1);
        x.tick(2);
        row("the record", itemRow(x, 1), 2, 0, 1, NONE, 0, 1, 0, 0, 10);
        due("check()", x.check(), 0);
        due("checked(0)", x.checked(0), 1);
        due("entry(0, 6): from when it was made", x.entry(0, 6), 8);
        call(x, "b");
        x.ask(0);
        row("the keys by number", itemRow(x, 0), 1, 0, 0, NONE, 0, 10, 20, 0, 20);
        row("the record anew", itemRow(x, 1), 2, 0, 1, NONE, 0, 50, 0, 0, 20);
    }

    private static void item() {
        where = "promise 16";
        GapProofs x = told("zone ab;rec b.ab t 9;");
        due("item(0, 0) without a proof", x.item(0, 0), STATE);
        due("item(-1, 0) without a proof", x.item(-1, 0), BAD);
        due("item(0, 11) without a proof", x.item(0, 11), BAD);
        call(x, "b.ab");
        x.publish(1, 500);
        x.publish(1, 2);
        x.digest(1, 2);
        x.ask(1);
        for (int w : FAR) due("item far what", x.item(0, w), BAD);
        due("item(0, 11)", x.item(0, 11), BAD);
        due("item(-1, 0)", x.item(-1, 0), BAD);
        due("item(4, 0)", x.item(4, 0), NONE);
        due("item far", x.item(Integer.MAX_VALUE, 0), NONE);
        row("item 0", itemRow(x, 0), 1, 0, 0, NONE, 0, 10, 0, 0, 10);
        row("item 1", itemRow(x, 1), 0, 1, 1, NONE, 0, 2, 11, 0, 10);
        row("item 2", itemRow(x, 2), 1, 1, 1, NONE, 0, 2, 11, 500, 11);
        row("item 3", itemRow(x, 3), 2, 1, 2, NONE, 1, 9, 0, 0, 11);
    }

    private static void itemMarks() {
        where = "promise 16";
        GapProofs x = told("zone ab;rec *.xyz.ab t 9;");
        call(x, "q.xyz.ab");
        x.ask(1);
        due("content of KEYS of zone 0", x.item(0, 10), 2463);
        due("mark of KEYS of zone 0", x.item(0, 9), 1868);
        int digests = mixed(0, 1, 1, 1, 2, 0, 0, 0, 11, 0, 0);
        due("content of DIGESTS", x.item(1, 10), digests);
        due("mark of DIGESTS", x.item(1, 9), (digests * 21 + 10) % 9973);
        int record = mixed(2, 1, 3, 1, 2, 0, 24, 25, 26, 0, 27, 0, 0, 1, 9, 0, 0);
        due("content of a RECORD", x.item(3, 10), record);
        due("mark of a RECORD", x.item(3, 9), (record * 23 + 11) % 9973);
        int link = mixed(3, 1, 3, 1, 2, 0, 24, 25, 26, 0, 27, 0, 1, 1, 2, 0, 2, 0, 0, 0);
        due("content of a LINK", x.item(4, 10), link);
        due("mark of a LINK", x.item(4, 9), (link * 23 + 11) % 9973);
        x.alter(4, 8, 999);
        due("content is not by the key", x.item(4, 10), link);
        due("mark by 999", x.sign(4), (int) ((link * 1999L + 999) % 9973));
    }

    private static void lose() {
        where = "promise 17";
        GapProofs x = told("zone a;rec b.a t 9;");
        due("lose(0) without a proof", x.lose(0), STATE);
        due("lose(-1) without a proof", x.lose(-1), BAD);
        call(x, "b.a");
        x.ask(1);
        due("lose(-1)", x.lose(-1), BAD);
        due("lose far", x.lose(Integer.MIN_VALUE), BAD);
        due("lose(4)", x.lose(4), NONE);
        due("lose far", x.lose(Integer.MAX_VALUE), NONE);
        due("lose(1)", x.lose(1), 3);
        row("kinds", kinds(x), 1, 11, 12);
        due("lose(2)", x.lose(2), 2);
        row("kinds", kinds(x), 1, 11);
        due("lose(0)", x.lose(0), 1);
        due("lose(0)", x.lose(0), 0);
        due("lose(0) of none", x.lose(0), NONE);
        due("rule(4)", x.rule(4), 0);
        due("ask(1)", x.ask(1), 4);
        row("kinds anew", kinds(x), 1, 10, 11, 12);
        row("the record anew", itemRow(x, 3), 2, 1, 2, NONE, 1, 9, 0, 0, 11);
    }

    private static void alter() {
        where = "promise 18";
        GapProofs x = told("rec a t 9;");
        due("alter without a proof", x.alter(0, 4, 0), STATE);
        due("alter of 3 without a proof", x.alter(0, 3, 0), BAD);
        call(x, "a");
        x.ask(1);
        int mark = x.item(1, 9);
        int[][] bad = {{-1, 4, 0}, {0, 3, 0}, {0, 10, 0}, {0, 4, -1}, {0, 4, 64}, {0, 5, -1}, {0, 5, 1000}, {0, 6, 1000},
            {0, 7, 1000}, {0, 7, -1}, {0, 8, 0}, {0, 8, 1000}, {0, 9, -1}, {0, 9, 9973}, {9, 9, 9973}, {0, -4, 0}};
        for (int[] b : bad) due("alter(" + b[0] + ", " + b[1] + ", " + b[2] + ")", x.alter(b[0], b[1], b[2]), BAD);
        for (int n : FAR) {
            due("alter far what", x.alter(0, n, 1), BAD);
            for (int w = 4; w <= 9; w++) due("alter far v", x.alter(0, w, n), BAD);
        }
        due("alter(2, 4, 0)", x.alter(2, 4, 0), NONE);
        due("alter(1, 4, 63)", x.alter(1, 4, 63), 1);
        due("alter(1, 4, 0)", x.alter(1, 4, 0), 63);
        due("alter(1, 5, 999)", x.alter(1, 5, 999), 9);
        due("alter(1, 6, 3)", x.alter(1, 6, 3), 0);
        due("alter(1, 7, 4)", x.alter(1, 7, 4), 0);
        due("alter(1, 8, 1)", x.alter(1, 8, 1), 10);
        due("alter(1, 9, 0)", x.alter(1, 9, 0), mark);
        due("alter(1, 9, 9972)", x.alter(1, 9, 9972), 0);
        row("item 1", itemRow(x, 1), 2, 0, 1, NONE, 0, 999, 3, 4, 1);
        due("item(1, 9)", x.item(1, 9), 9972);
        due("item(1, 10)", x.item(1, 10), mixed(2, 0, 1, 1, 0, 0, 0, 999, 3, 4));
        due("item(0, 5)", x.item(0, 5), 10);
    }

    private static void rename() {
        where = "promise 19";
        GapProofs x = told("rec b.a t 9;");
        due("rename without a proof", x.rename(0, 0), STATE);
        due("rename(0, 2) without a proof", x.rename(0, 2), BAD);
        call(x, "c");
        x.ask(1);
        row("kinds", kinds(x), 1, 3, 3);
        for (int n : FAR) due("rename far what", x.rename(0, n), BAD);
        due("rename(0, 2)", x.rename(0, 2), BAD);
        due("rename(-1, 0)", x.rename(-1, 0), BAD);
        due("rename(3, 0)", x.rename(3, 0), NONE);
        due("rename(0, 1): no LINK", x.rename(0, 1), NONE);
        call(x, "d.c.b.a");
        due("rename(1, 0)", x.rename(1, 0), 2);
        due("item(1, 2)", x.item(1, 2), 4);
        due("item(1, 3)", x.item(1, 3), 0);
        due("rename(2, 1)", x.rename(2, 1), 2);
        due("item(2, 2)", x.item(2, 2), 0);
        due("item(2, 3)", x.item(2, 3), 4);
        due("rename(0, 0)", x.rename(0, 0), 0);
        due("content", x.item(0, 10), mixed(1, 0, 4, 1, 0, 2, 0, 3, 0, 4, 0, 0, 0, 10, 0, 0));
        x.up(4);
        due("an item's name stays", x.item(0, 2), 4);
        due("rename(0, 0)", x.rename(0, 0), 4);
    }

    private static void sign() {
        where = "promise 20";
        GapProofs x = told("rec a t 9;");
        due("sign without a proof", x.sign(0), STATE);
        due("sign(-1) without a proof", x.sign(-1), BAD);
        call(x, "a");
        x.ask(1);
        int mark = x.item(1, 9);
        due("sign(-1)", x.sign(-1), BAD);
        due("sign far", x.sign(Integer.MIN_VALUE), BAD);
        due("sign(2)", x.sign(2), NONE);
        due("sign(1) of what is signed", x.sign(1), mark);
        x.alter(1, 5, 8);
        due("the mark stays till then", x.item(1, 9), mark);
        int content = mixed(2, 0, 1, 1, 0, 0, 1, 8, 0, 0);
        due("sign(1)", x.sign(1), (content * 21 + 10) % 9973);
        due("item(1, 9)", x.item(1, 9), (content * 21 + 10) % 9973);
        x.alter(1, 8, 77);
        due("sign(1) by 77", x.sign(1), (content * 155 + 77) % 9973);
    }

    private static void check() {
        where = "promise 21";
        GapProofs x = told("zone a;plain p;rec b.a t 5;rec *.c.a m 7;rec d.a a 9;rec f.e.a a 1;rec x.p a 1;");
        due("check() without a proof", x.check(), STATE);
        due("checked(0)", x.checked(0), STATE);
        String[] names = {"b.a", "b.a", "c.a", "e.a", "x.c.a", "y.x.c.a", "x.c.a", "g.a", "*.a", "x.p", "p", ".", "z", "a", "x.*.c.a"};
        int[] sorts = {1, 0, 2, 0, 2, 2, 0, 0, 1, 0, 1, 0, 2, 0, 2};
        int[] want = {0, 1, 1, 1, 2, 2, 3, 4, 4, 5, 5, 1, 4, 1, 4};
        for (int i = 0; i < names.length; i++) {
            call(x, names[i]);
            x.ask(sorts[i]);
            x.up(x.name(0));
            due("check() of " + names[i] + " " + sorts[i], x.check(), want[i]);
        }
    }

    private static void checkBroken() {
        where = "promise 21";
        GapProofs x = told("zone a;zone b.a;rec c.b.a t 5;");
        call(x, "c.b.a");
        // Without a cache: of each item, what its loss breaks.
        int[] want = {-22, -21, -22, -21, -22, -23};
        int[] at = {0, 1, 1, 2, 2, 2};
        for (int i = 0; i < 6; i++) {
            tell(x, "zone a;zone b.a;rec c.b.a t 5;");
            call(x, "c.b.a");
            x.ask(1);
            x.lose(i);
            due("check() without item " + i, x.check(), want[i]);
            due("checked(1)", x.checked(1), at[i]);
            due("checked(0)", x.checked(0), NONE);
        }
        // NO NAME without the link that covers the star.
        tell(x, "rec b t 5;");
        call(x, "c");
        x.ask(1);
        x.lose(2);
        due("check() without the star's link", x.check(), -24);
        due("checked(1)", x.checked(1), 0);
        x.ask(1);
        x.lose(1);
        due("check() without the gap's link", x.check(), -23);
        // No digest is told at the parent.
        tell(x, "zone a;rec c.a t 5;");
        call(x, "c.a");
        x.undigest(1, 11);
        due("ask(1)", x.ask(1), 4);
        due("check() without digests", x.check(), -22);
        due("checked(1)", x.checked(1), 1);
        due("checked(2)", x.checked(2), 2);
        row("an entry without keys", entryRow(x, 1), 1, 0, 0, 0, 0, 1, 10);
    }

    private static void checkTampered() {
        where = "promise 21";
        GapProofs x = told("zone a;rec c.a t 5;");
        call(x, "c.a");
        x.ask(1);
        x.alter(3, 5, 6);
        due("altered", x.check(), -23);
        x.alter(3, 8, 500);
        x.sign(3);
        due("signed by a key that is not out", x.check(), -23);
        x.alter(3, 8, 10);
        x.sign(3);
        due("signed by the parent's key", x.check(), -23);
        x.alter(3, 8, 11);
        x.sign(3);
        due("signed by its own key", x.check(), 0);
        due("checked(0)", x.checked(0), 6);
        x.alter(3, 4, 33);
        x.sign(3);
        due("of another sort", x.check(), -23);
        // Keys of an intruder, signed by themselves: no digest stands for them.
        tell(x, "zone a;rec c.a t 5;");
        call(x, "c.a");
        x.ask(1);
        x.alter(2, 5, 66);
        x.alter(2, 8, 66);
        x.sign(2);
        due("other keys", x.check(), -22);
        x.alter(1, 6, 66);
        x.sign(1);
        due("DIGESTS are an ENTRY now", x.check(), -22);
        x.tick(10);
        due("with a digest", x.check(), -23);
        x.alter(3, 8, 66);
        x.sign(3);
        due("with the record signed by it", x.check(), 0);
        // A key that has a digest, but is not among the keys themselves.
        tell(x, "zone a;rec c.a t 5;");
        call(x, "c.a");
        x.ask(1);
        x.alter(2, 5, 12);
        x.sign(2);
        due("not by its own keys", x.check(), -22);
        x.alter(2, 7, 11);
        x.sign(2);
        due("by its own keys", x.check(), 0);
        row("the keys, one behind another", entryRow(x, 2), 1, 1, 12, 11, 0, 1, 10);
    }

    private static void checkStarAndGap() {
        where = "promise 21";
        GapProofs x = told("rec b a 5;rec d a 5;");
        call(x, "c");
        x.ask(0);
        call(x, "c");
        // A link to the name itself covers nothing, one to a name below it shows that it is there.
        x.rename(1, 1);
        x.sign(1);
        due("NEXT is the name", x.check(), -23);
        x.label(1, 0, 0);
        x.rename(1, 1);
        x.sign(1);
        due("NEXT is below the name", x.check(), 1);
        // NEXT is the APEX: it covers all behind its OWNER, but nothing ahead of it.
        x.up(2);
        x.rename(1, 1);
        x.sign(1);
        due("NEXT is the apex", x.check(), 4);
        call(x, "d");
        x.rename(1, 0);
        x.sign(1);
        due("OWNER is behind the name", x.check(), -23);
        call(x, "c");
        x.rename(1, 0);
        x.alter(1, 4, 1);
        x.sign(1);
        due("OWNER is the name, with the sort", x.check(), -23);
        x.alter(1, 4, 62);
        x.sign(1);
        due("OWNER is the name, without the sort", x.check(), 1);
        checkClosest();
    }

    private static void checkClosest() {
        GapProofs x = told("rec b.a a 5;rec *.a t 6;rec * t 8;");
        call(x, "c.a");
        due("ask(0)", x.ask(0), 3);
        due("WILD NO SORT", x.check(), 3);
        due("ask(1)", x.ask(1), 3);
        due("WILD", x.check(), 2);
        due("checked(0)", x.checked(0), 6);
        // The first LINK that covers the name is GAP, and tells where the star stands.
        call(x, "*");
        x.rename(1, 0);
        x.sign(1);
        due("a record of another star", x.check(), 4 - 28);
        x.rename(2, 0);
        x.sign(2);
        x.up(1);
        x.rename(2, 1);
        x.sign(2);
        due("GAP has another closest one", x.check(), 2);
    }

    private static void checkPlain() {
        where = "promise 21";
        GapProofs x = told("zone a;plain b.a;zone c.b.a;rec d.c.b.a a 1;");
        call(x, "d.c.b.a");
        due("ask(0)", x.ask(0), 4);
        due("check()", x.check(), 5);
        due("checked(1)", x.checked(1), 2);
        due("checked(0)", x.checked(0), NONE);
        x.alter(3, 4, 24);
        x.sign(3);
        due("with 16", x.check(), -21);
        due("checked(1)", x.checked(1), 2);
        x.alter(3, 4, 0);
        x.sign(3);
        due("without 8", x.check(), -21);
        x.alter(3, 4, 47);
        x.sign(3);
        due("8 among others", x.check(), 5);
        x.alter(3, 8, 10);
        x.sign(3);
        due("by another key", x.check(), -21);
        x.alter(3, 8, 11);
        x.sign(3);
        due("by its key", x.check(), 5);
        call(x, "b");
        x.rename(3, 0);
        x.sign(3);
        due("of another owner", x.check(), -21);
        // A SIGNED zone is not taken for a PLAIN one.
        tell(x, "zone a;rec b.a a 1;");
        call(x, "c");
        x.ask(0);
        call(x, "b.a");
        x.ask(0);
        x.lose(1);
        due("a SIGNED zone without digests", x.check(), -21);
    }

    /** What is KNOWN from the cache needs no item ahead: the one that is wanted may be item 0. */
    private static void checkFirstItem() {
        where = "promise 21";
        GapProofs x = told("zone a;plain b;rec c.a a 3;rec e.d t 1;");
        call(x, ".");
        x.ask(0);
        due("check() of the root", x.check(), 1);
        row("entries", entries(x), 1);
        x.lose(0);
        due("by its own link as item 0", x.check(), 1);
        call(x, "d");
        x.ask(0);
        x.lose(0);
        due("by the link to a name below as item 0", x.check(), 1);
        call(x, "*");
        x.ask(0);
        x.lose(0);
        due("by the gap as item 0", x.check(), 4);
        call(x, "b");
        x.ask(0);
        x.lose(0);
        due("rule(4)", x.rule(4), 1);
        due("by the link of a PLAIN zone as item 0", x.check(), 5);
        call(x, "c.a");
        x.ask(0);
        x.lose(0);
        due("by DIGESTS as item 0", x.check(), 0);
        row("entries", entries(x), 1, 10, 11);
        x.lose(0);
        x.lose(0);
        due("by the record as item 0", x.check(), 0);
        due("checked(0)", x.checked(0), 3);
    }

    private static void checked() {
        where = "promise 22";
        GapProofs x = told("zone a;rec b.a a 3;rec *.a t 4;");
        due("checked(0)", x.checked(0), STATE);
        due("checked(3)", x.checked(3), BAD);
        x.check();
        due("checked(0) after a refused one", x.checked(0), STATE);
        call(x, "b.a");
        x.ask(0);
        due("checked(0) after ask", x.checked(0), STATE);
        x.check();
        for (int n : FAR) due("checked far", x.checked(n), BAD);
        due("checked(3)", x.checked(3), BAD);
        due("checked(0)", x.checked(0), 3);
        due("checked(1)", x.checked(1), 1);
        due("checked(2)", x.checked(2), 3);
        x.check();
        due("checked(2) from the cache", x.checked(2), 0);
        call(x, "c.a");
        x.ask(1);
        due("checked(0) stays", x.checked(0), 3);
        x.check();
        due("checked(0) of WILD", x.checked(0), 4);
        x.ask(0);
        x.check();
        due("checked(0) of WILD NO SORT", x.checked(0), NONE);
        x.keep(0);
        due("checked(1)", x.checked(1), 1);
        x.back(0);
        due("checked(1) after back", x.checked(1), STATE);
        x.ask(0);
        x.check();
        due("checked(1)", x.checked(1), 1);
        tell(x, "zone .;");
        due("checked(1) after a fault", x.checked(1), 1);
        tell(x, "");
        due("checked(1) anew", x.checked(1), STATE);
    }

    private static void entry() {
        where = "promise 23";
        GapProofs x = told("zone a;rec b.a a 3;");
        due("entry(0, 0) of none", x.entry(0, 0), NONE);
        due("entry(-1, 0)", x.entry(-1, 0), BAD);
        due("entry(0, 7)", x.entry(0, 7), BAD);
        x.publish(1, 500);
        x.publish(1, 2);
        x.digest(1, 2);
        call(x, "b.a");
        x.tick(3);
        x.ask(0);
        x.tick(2);
        x.check();
        for (int n : FAR) due("entry far what", x.entry(0, n), BAD);
        due("entry(3, 0)", x.entry(3, 0), NONE);
        due("entry far", x.entry(Integer.MAX_VALUE, 0), NONE);
        row("entry 0", entryRow(x, 0), 0, 1, 10, 0, 0, 1, 8);
        row("entry 1", entryRow(x, 1), 1, 0, 2, 11, 0, 1, 8);
        row("entry 2", entryRow(x, 2), 1, 1, 2, 11, 500, 1, 8);
        x.tick(7);
        row("entry 0", entryRow(x, 0), 0, 1, 10, 0, 0, 1, 1);
        x.tick(1);
        row("entry 0", entryRow(x, 0), 0, 1, 10, 0, 0, 0, 0);
        x.tick(1000);
        row("entry 0", entryRow(x, 0), 0, 1, 10, 0, 0, 0, 0);
        due("rule(5)", x.rule(5), 3);
        due("rule(6)", x.rule(6), 0);
        // Numbers of 0 ahead of others are left out.
        x.ask(0);
        x.alter(2, 5, 0);
        x.alter(2, 7, 11);
        x.sign(2);
        due("check()", x.check(), 0);
        row("entry 2", entryRow(x, 2), 1, 1, 11, 11, 0, 1, 10);
    }

    private static void entryOrder() {
        where = "promise 23";
        GapProofs x = told("zone a;zone b.a;zone c.b.a;rec d.c.b.a a 1;rec e.a a 2;");
        call(x, "d.c.b.a");
        due("ask(0)", x.ask(0), 8);
        due("check()", x.check(), 0);
        due("checked(2)", x.checked(2), 7);
        row("the last four", entries(x), 20, 21, 30, 31);
        due("check() once more", x.check(), 0);
        // Each new one drives out one that was still wanted farther down.
        due("checked(2)", x.checked(2), 7);
        row("the last four", entries(x), 20, 21, 30, 31);
        call(x, "e.a");
        x.ask(0);
        due("check()", x.check(), 0);
        due("checked(2)", x.checked(2), 3);
        row("entries", entries(x), 31, 1, 10, 11);
        call(x, "d.c.b.a");
        x.ask(0);
        due("check()", x.check(), 0);
        // KEYS of ZONE 3 went when those of ZONE 2 came.
        due("checked(2)", x.checked(2), 4);
        row("entries", entries(x), 20, 21, 30, 31);
        // KEYS that are ALIVE do not ask for DIGESTS.
        tell(x, "zone a;rec e.a a 2;");
        call(x, "e.a");
        x.ask(0);
        x.check();
        row("entries", entries(x), 1, 10, 11);
        while (x.rule(4) > 1) x.lose(0);
        due("by the record alone", x.check(), 0);
        due("checked(2)", x.checked(2), 0);
    }

    private static void cacheSpan() {
        where = "promise 23";
        GapProofs x = told("zone a;zone b;rec e.a a 2;rec e.b a 2;span 5;");
        call(x, "e.a");
        x.ask(0);
        x.check();
        row("entries", entries(x), 1, 10, 11);
        x.tick(3);
        call(x, "e.b");
        x.ask(0);
        x.check();
        due("KEYS 0 are ALIVE", x.checked(2), 2);
        row("entries", entries(x), 10, 11, 20, 21);
        x.tick(2);
        due("rule(6)", x.rule(6), 2);
        call(x, "e.a");
        x.ask(0);
        x.check();
        // KEYS 0 had gone: the new one drives out 10; then 10 comes anew and drives out 11; 11 takes no place of its own.
        due("checked(2)", x.checked(2), 3);
        row("entries", entries(x), 21, 1, 10, 11);
        due("entry(0, 6)", x.entry(0, 6), 3);
        due("entry(1, 6)", x.entry(1, 6), 5);
        x.tick(5);
        x.ask(0);
        x.check();
        row("what had ended is taken out, not the oldest", entries(x), 21, 1, 10, 11);
        due("rule(6)", x.rule(6), 3);
        // A proof that is old makes entries that have ended already, and serves all the same.
        x.tick(100);
        due("check()", x.check(), 0);
        due("checked(2)", x.checked(2), 3);
        due("rule(6)", x.rule(6), 0);
        due("entry(3, 6)", x.entry(3, 6), 0);
    }

    // ---- 24 to 30

    private static void tick() {
        where = "promise 24";
        GapProofs x = new GapProofs();
        for (int n : FAR) if (n != 1000000) due("tick far", x.tick(n), BAD);
        due("tick(0)", x.tick(0), BAD);
        due("tick(1000000001)", x.tick(1000000001), BAD);
        due("tick(1)", x.tick(1), 1);
        due("tick(1000000000)", x.tick(1000000000), 1000000001);
        due("tick(1000000000)", x.tick(1000000000), 2000000001);
        due("tick(147483647)", x.tick(147483647), FULL);
        due("rule(2)", x.rule(2), 2000000001);
        due("tick(147483646)", x.tick(147483646), 2147483647);
        due("tick(1)", x.tick(1), FULL);
        // At the end of all time the span goes on.
        x.ask(0);
        due("check()", x.check(), 1);
        row("entry 0", entryRow(x, 0), 0, 1, 10, 0, 0, 1, 10);
    }

    private static final String ZONES = "zone a;plain b;span 5;";

    private static void publish() {
        where = "promise 25";
        GapProofs x = told(ZONES);
        for (int n : FAR) {
            due("publish far z", x.publish(n, 5), BAD);
            due("publish far k", x.publish(1, n), BAD);
        }
        due("publish(3, 5)", x.publish(3, 5), BAD);
        due("publish(1, 0)", x.publish(1, 0), BAD);
        due("publish(2, 1000)", x.publish(2, 1000), BAD);
        due("publish(2, 5)", x.publish(2, 5), STATE);
        due("publish(1, 11)", x.publish(1, 11), STATE);
        x.tick(7);
        due("publish(1, 999)", x.publish(1, 999), 2);
        due("publish(1, 1)", x.publish(1, 1), 3);
        due("publish(1, 1)", x.publish(1, 1), STATE);
        due("publish(1, 2)", x.publish(1, 2), FULL);
        due("key(1, 0, 0)", x.key(1, 0, 0), 1);
        due("key(1, 0, 2)", x.key(1, 0, 2), 7);
        due("key(1, 1, 2)", x.key(1, 1, 2), 0);
        due("zone(1, 7)", x.zone(1, 7), 11);
        due("publish(0, 11)", x.publish(0, 11), 2);
    }

    private static void retire() {
        where = "promise 26";
        GapProofs x = told(ZONES);
        for (int n : FAR) {
            due("retire far z", x.retire(n, 5), BAD);
            due("retire far k", x.retire(1, n), BAD);
        }
        due("retire(3, 5)", x.retire(3, 5), BAD);
        due("retire(1, 1000)", x.retire(1, 1000), BAD);
        due("retire(1, 0)", x.retire(1, 0), BAD);
        due("retire(2, 12)", x.retire(2, 12), STATE);
        due("retire(1, 5)", x.retire(1, 5), STATE);
        due("retire(1, 11)", x.retire(1, 11), STATE);
        x.publish(1, 5);
        x.publish(1, 20);
        due("retire(1, 5)", x.retire(1, 5), 2);
        due("key(1, 0, 0)", x.key(1, 0, 0), 11);
        due("key(1, 1, 0)", x.key(1, 1, 0), 20);
        x.activate(1, 20);
        due("retire(1, 20)", x.retire(1, 20), STATE);
        due("retire(1, 11)", x.retire(1, 11), 1);
        due("zone(1, 6): the digest stays", x.zone(1, 6), 1);
        x.tick(3);
        x.publish(1, 11);
        due("out anew: since then", x.key(1, 0, 2), 3);
    }

    private static void digest() {
        where = "promise 27";
        GapProofs x = told(ZONES);
        for (int n : FAR) {
            due("digest far z", x.digest(n, 5), BAD);
            due("digest far k", x.digest(1, n), BAD);
        }
        due("digest(3, 5)", x.digest(3, 5), BAD);
        due("digest(1, 0)", x.digest(1, 0), BAD);
        due("digest(1, 1000)", x.digest(1, 1000), BAD);
        due("digest(2, 5)", x.digest(2, 5), STATE);
        due("digest(1, 11)", x.digest(1, 11), STATE);
        x.tick(2);
        due("digest(1, 5): not out", x.digest(1, 5), 2);
        due("digest(1, 5)", x.digest(1, 5), STATE);
        due("digest(1, 6)", x.digest(1, 6), FULL);
        due("digest(0, 10)", x.digest(0, 10), STATE);
        due("digest(0, 999)", x.digest(0, 999), 2);
        due("digest(0, 1)", x.digest(0, 1), FULL);
        due("key(1, 0, 1)", x.key(1, 0, 1), 5);
        due("key(1, 0, 3)", x.key(1, 0, 3), 2);
    }

    private static void undigest() {
        where = "promise 28";
        GapProofs x = told(ZONES);
        for (int n : FAR) {
            due("undigest far z", x.undigest(n, 5), BAD);
            due("undigest far k", x.undigest(1, n), BAD);
        }
        due("undigest(3, 5)", x.undigest(3, 5), BAD);
        due("undigest(1, 0)", x.undigest(1, 0), BAD);
        due("undigest(1, 1000)", x.undigest(1, 1000), BAD);
        due("undigest(2, 12)", x.undigest(2, 12), STATE);
        due("undigest(1, 5)", x.undigest(1, 5), STATE);
        due("undigest(1, 11): the last one", x.undigest(1, 11), 0);
        due("undigest(1, 11)", x.undigest(1, 11), STATE);
        due("undigest(0, 10)", x.undigest(0, 10), STATE);
        x.digest(0, 20);
        due("undigest(0, 10)", x.undigest(0, 10), 1);
        due("undigest(0, 20)", x.undigest(0, 20), STATE);
        due("key(0, 0, 1)", x.key(0, 0, 1), 20);
    }

    private static void why() {
        where = "promise 29";
        GapProofs x = told(ZONES);
        for (int n : FAR) {
            due("why far z", x.why(n, 5), BAD);
            due("why far k", x.why(1, n), BAD);
        }
        due("why(3, 5)", x.why(3, 5), BAD);
        due("why(1, 0)", x.why(1, 0), BAD);
        due("why(2, 1000)", x.why(2, 1000), BAD);
        due("why(2, 12)", x.why(2, 12), STATE);
        due("why(1, 11)", x.why(1, 11), 1);
        due("why(1, 20)", x.why(1, 20), 2);
        x.publish(1, 20);
        due("why(1, 20)", x.why(1, 20), 3);
        x.tick(4);
        due("why(1, 20)", x.why(1, 20), 3);
        x.tick(1);
        due("why(1, 20)", x.why(1, 20), 4);
        x.digest(1, 20);
        due("why(1, 20)", x.why(1, 20), 5);
        x.tick(4);
        due("why(1, 20)", x.why(1, 20), 5);
        x.tick(1);
        due("why(1, 20)", x.why(1, 20), 0);
        x.publish(0, 20);
        x.digest(0, 30);
        due("why(0, 20)", x.why(0, 20), 3);
        x.tick(5);
        due("why(0, 20): no trust", x.why(0, 20), 4);
        x.undigest(0, 30);
        x.digest(0, 20);
        due("why(0, 20): trust needs no span", x.why(0, 20), 0);
        x.digest(1, 12);
        due("why(1, 12): a digest alone", x.why(1, 12), 2);
    }

    private static void activate() {
        where = "promise 30";
        GapProofs x = told(ZONES);
        for (int n : FAR) {
            due("activate far z", x.activate(n, 5), BAD);
            due("activate far k", x.activate(1, n), BAD);
        }
        due("activate(3, 5)", x.activate(3, 5), BAD);
        due("activate(1, 0)", x.activate(1, 0), BAD);
        due("activate(1, 1000)", x.activate(1, 1000), BAD);
        due("activate(2, 12)", x.activate(2, 12), STATE);
        due("activate(1, 11)", x.activate(1, 11), STATE);
        due("activate(1, 20)", x.activate(1, 20), STATE);
        x.publish(1, 20);
        due("activate(1, 20): too early", x.activate(1, 20), 11);
        due("zone(1, 7)", x.zone(1, 7), 20);
        due("zone(1, 5)", x.zone(1, 5), 2);
        due("why(1, 20)", x.why(1, 20), 1);
        due("activate(1, 11): back again", x.activate(1, 11), 20);
        x.tick(9);
        due("activate(1, 20): no digest", x.activate(1, 20), 11);
    }

    private static void rollover() {
        where = "promise 30";
        GapProofs x = told("zone a;rec c.a t 5;span 5;");
        call(x, "c.a");
        x.ask(1);
        x.check();
        x.publish(1, 20);
        x.activate(1, 20);
        x.ask(1);
        due("the cache is left in a hole", x.check(), -23);
        x.tick(5);
        x.ask(1);
        due("the digest is missing", x.check(), -22);
        due("checked(1)", x.checked(1), 1);
        x.digest(1, 20);
        x.tick(5);
        x.ask(1);
        due("with a digest", x.check(), 0);
        x.publish(0, 30);
        x.activate(0, 30);
        x.tick(5);
        x.ask(1);
        due("the root without trust", x.check(), -22);
        due("checked(1)", x.checked(1), 0);
        x.digest(0, 30);
        due("trust is there at once", x.check(), 0);
        due("undigest(0, 10)", x.undigest(0, 10), 1);
        due("retire(0, 10)", x.retire(0, 10), 1);
        x.ask(1);
        due("check()", x.check(), 0);
        due("item(1, 8): the parent's active key", x.item(1, 8), 30);
    }

    // ---- 31 to 34

    private static void put() {
        where = "promise 31";
        GapProofs x = told("zone a;rec b.a t 5;");
        for (int n : FAR) {
            due("put far sort", x.put(n, 5), BAD);
            due("put far v", x.put(0, n), BAD);
        }
        due("put(3, 5)", x.put(3, 5), BAD);
        due("put(0, 100)", x.put(0, 100), BAD);
        call(x, "b.a");
        due("put(1, 0)", x.put(1, 0), 5);
        due("put(1, 99)", x.put(1, 99), 0);
        due("put(0, 1)", x.put(0, 1), NONE);
        due("rule(1)", x.rule(1), 2);
        due("name(3)", x.name(3), 3);
        due("answer(1, 1)", x.answer(1, 1), 99);
        for (int i = 1; i <= 22; i++) {
            x.up(x.name(0));
            x.label(i, 0, 0);
            due("put(2, i)", x.put(2, i), NONE);
        }
        due("rule(1)", x.rule(1), 24);
        due("put(0, 1): the 25th", x.put(0, 1), FULL);
        due("put(0, 100): the 25th", x.put(0, 100), BAD);
        due("put(2, 1): it is there", x.put(2, 1), 22);
        due("zone(0, 3)", x.zone(0, 3), 23);
        due("remove(2)", x.remove(2), 1);
        due("put(0, 1)", x.put(0, 1), NONE);
        due("put at the root", x.up(1), 0);
        due("put(0, 1)", x.put(0, 1), FULL);
    }

    private static void remove() {
        where = "promise 32";
        GapProofs x = told("zone a;rec b.a t 5;rec c.a t 6;rec b.a m 7;rec . a 1;");
        for (int n : FAR) due("remove far", x.remove(n), BAD);
        due("remove(3)", x.remove(3), BAD);
        due("remove(1)", x.remove(1), NONE);
        due("remove(0) at the root", x.remove(0), 1);
        call(x, "b.a");
        due("remove(0)", x.remove(0), NONE);
        due("remove(1)", x.remove(1), 5);
        due("remove(1)", x.remove(1), NONE);
        due("rule(1)", x.rule(1), 2);
        due("name(3)", x.name(3), 4);
        due("answer(2, 1)", x.answer(2, 1), 7);
        due("remove(2)", x.remove(2), 7);
        due("name(2)", x.name(2), 0);
        call(x, "c.a");
        due("answer(1, 1)", x.answer(1, 1), 6);
    }

    private static void keep() {
        where = "promise 33";
        GapProofs x = new GapProofs();
        for (int n : FAR) due("keep far", x.keep(n), BAD);
        due("keep(2)", x.keep(2), BAD);
        due("keep(1)", x.keep(1), 0);
        due("keep(1)", x.keep(1), 1);
        due("keep(0)", x.keep(0), 0);
        due("rule(8)", x.rule(8), 2);
        x.put(0, 3);
        due("keep(0)", x.keep(0), 1);
        due("back(1)", x.back(1), 0);
        due("back(0)", x.back(0), 1);
        due("keep(0)", x.keep(0), 1);
        tell(x, "");
        due("keep(0) anew", x.keep(0), 0);
    }

    private static void back() {
        where = "promise 34";
        GapProofs x = told("zone a;rec b.a t 5;span 4;");
        for (int n : FAR) due("back far", x.back(n), BAD);
        due("back(2)", x.back(2), BAD);
        due("back(0)", x.back(0), STATE);
        call(x, "b.a");
        x.tick(2);
        x.publish(1, 20);
        x.ask(1);
        x.check();
        x.keep(0);
        due("back(1)", x.back(1), STATE);
        x.put(0, 9);
        x.put(1, 8);
        x.activate(1, 20);
        x.retire(1, 11);
        x.digest(1, 20);
        x.digest(0, 30);
        x.undigest(0, 10);
        x.tick(3);
        x.ask(1);
        x.check();
        x.feed(' ');
        x.label(3, 0, 0);
        due("back(0)", x.back(0), 1);
        row("rule", rules(x), 2, 1, 2, 4, NONE, 3, 3, 1, 1);
        row("zone 0", zoneRow(x, 0), 1, NONE, 0, 2, 0, 1, 1, 10);
        row("zone 1", zoneRow(x, 1), 1, 0, 1, 2, 1, 2, 1, 11);
        due("key(1, 0, 0)", x.key(1, 0, 0), 11);
        due("key(1, 1, 2)", x.key(1, 1, 2), 2);
        due("key(0, 0, 1)", x.key(0, 0, 1), 10);
        row("entry 2", entryRow(x, 2), 1, 1, 11, 20, 0, 1, 4);
        due("the name stays", x.name(0), 3);
        due("check()", x.check(), STATE);
        due("checked(0)", x.checked(0), STATE);
        x.up(1);
        due("answer(1, 1)", x.answer(1, 1), 5);
        x.remove(1);
        due("an image stays as it was", x.back(0), 1);
        due("answer(1, 1)", x.answer(1, 1), 5);
        backCache();
    }

    private static void backCache() {
        GapProofs x = told("zone a;zone b.a;rec c.b.a t 5;rec d.a a 1;span 4;");
        x.keep(0);
        call(x, "d.a");
        x.publish(0, 5);
        x.ask(0);
        x.check();
        x.keep(1);
        x.tick(4);
        call(x, "c.b.a");
        x.ask(1);
        x.check();
        row("entries", entries(x), 10, 11, 20, 21);
        due("back(1)", x.back(1), 2);
        row("entries of image 1", entries(x), 1, 10, 11);
        row("entry 0", entryRow(x, 0), 0, 1, 5, 10, 0, 1, 4);
        row("entry 1", entryRow(x, 1), 1, 0, 11, 0, 0, 1, 4);
        row("entry 2", entryRow(x, 2), 1, 1, 11, 0, 0, 1, 4);
        due("back(0)", x.back(0), 2);
        row("entries of image 0", entries(x));
        due("zone(0, 5)", x.zone(0, 5), 1);
        due("back(1)", x.back(1), 2);
        row("entries of image 1", entries(x), 1, 10, 11);
        due("rule(8)", x.rule(8), 2);
    }
}
