/**
 * The head of the Terms: of more than one refusal the first that fits is answered, and what is refused changes nothing
 * (but THE TAPE, as told). Each test is named by the promise of the call that is refused.
 */
public final class RefusalsTest extends Bench {
    public static void main(String[] args) {
        finish("refusals: " + runAll(RefusalsTest.class) + " tests");
    }

    // ---- objects on which calls are refused

    private static final String ZONES = "zone a;plain b;zone c.a;rec d.a a 5;rec *.a t 6;rec e.c.a m 7;rec f t 8;span 5;";
    private static final String TAPE = "rec q a 7; span 9;";

    /** With a PROOF, ENTRIES, two IMAGES that are unlike, a check() and a TAPE; THE NAME is q.a. */
    private static GapProofs rich() {
        GapProofs x = told(ZONES);
        x.tick(3);
        x.publish(1, 20);
        x.digest(1, 21);
        x.publish(0, 30);
        x.digest(0, 31);
        due("check() of what is rich", askAndCheck(x, "e.c.a", 2), 0);
        x.keep(0);
        call(x, "f");
        x.put(0, 9);
        x.tick(2);
        x.keep(1);
        x.put(1, 44);
        due("ask(1) of what is rich", ask(x, "q.a", 1), 5);
        write(x, TAPE);
        return x;
    }

    /** As it was told: no PROOF, no ENTRY, no IMAGE, no check(). */
    private static GapProofs bare() {
        GapProofs x = told(ZONES);
        x.tick(3);
        call(x, "d.a");
        write(x, TAPE);
        return x;
    }

    private static GapProofs atTheEndOfTime() {
        GapProofs x = told(ZONES);
        x.tick(1000000000);
        x.tick(1000000000);
        x.tick(147483647);
        ask(x, "q.a", 1);
        return x;
    }

    private static GapProofs withFullTape() {
        GapProofs x = bare();
        x.end(0);
        write(x, "rec q a 7;");
        for (int i = 10; i < 200; i++) x.feed(' ');
        return x;
    }

    /** Three KEYS that are out and two digests of ZONES 0 and 1. */
    private static GapProofs withManyKeys() {
        GapProofs x = bare();
        for (int z = 0; z < 2; z++) {
            x.publish(z, 20);
            x.publish(z, 30);
            x.digest(z, 20);
        }
        return x;
    }

    private static GapProofs with24Records() {
        GapProofs x = new GapProofs();
        for (int n = 1; n <= 8; n++) {
            x.up(x.name(0));
            x.label(n, 0, 0);
            for (int sort = 0; sort < 3; sort++) due("put", x.put(sort, n), NONE);
        }
        x.up(1);
        x.label(9, 0, 0);
        return x;
    }

    private static GapProofs with4Labels() {
        GapProofs x = bare();
        call(x, "*.b.xyz.a");
        return x;
    }

    /** The latest text() had that FAULT, so that another one of the same sort changes nothing at all. */
    private static GapProofs afterFault(int number) {
        GapProofs x = rich();
        x.end(0);
        String[] texts = {"", "?", "q", "span 0;", "span 1;span 2;", "zone .;"};
        tell(x, texts[number]);
        due("fault()", x.fault(), number);
        return x;
    }

    // ---- the text

    private static void promise02Feed() {
        refused("feed(-1)", RefusalsTest::rich, x -> x.feed(-1), BAD);
        refused("feed(128)", RefusalsTest::rich, x -> x.feed(128), BAD);
        refused("the 201st, below 0", RefusalsTest::withFullTape, x -> x.feed(-1), BAD);
        refused("the 201st, above 127", RefusalsTest::withFullTape, x -> x.feed(128), BAD);
        refused("the 201st, 0", RefusalsTest::withFullTape, x -> x.feed(0), FULL);
        refused("the 201st, 127", RefusalsTest::withFullTape, x -> x.feed(127), FULL);
    }

    private static void promise03End() {
        refused("end(-1)", RefusalsTest::rich, x -> x.end(-1), BAD);
        refused("end of one more", RefusalsTest::rich, x -> x.end(TAPE.length() + 1), BAD);
        refused("end(201)", RefusalsTest::withFullTape, x -> x.end(201), BAD);
    }

    private static void promise04TextWithAFaultChangesTheTapeAlone() {
        String lines = "plain x;rec y a 1;span 50;";
        String[] texts = {"", lines + "zone ?", lines + "zone", lines + "zone abcd;", lines + "span 3;", lines + "plain x;"};
        int[] places = {0, 31, 30, 31, 26, 33};
        for (int number = 1; number <= 5; number++) {
            int n = number;
            refused("text() with FAULT " + n, () -> afterFault(n), x -> tell(x, texts[n]), -10 - places[n]);
        }
    }

    // ---- names, zones

    private static void promise06Label() {
        int[][] bad = {{0, 0, 0}, {0, 1, 0}, {0, 0, 1}, {-1, 0, 0}, {28, 0, 0}, {1, -1, 0}, {1, 27, 0}, {1, 1, -1}, {1, 1, 27},
            {1, 0, 1}, {27, 1, 0}, {27, 0, 1}, {27, 27, 0}, {27, -1, 0}};
        for (int[] b : bad) {
            String label = "label(" + b[0] + ", " + b[1] + ", " + b[2] + ")";
            refused(label, RefusalsTest::rich, x -> x.label(b[0], b[1], b[2]), BAD);
            refused(label + ", the fifth", RefusalsTest::with4Labels, x -> x.label(b[0], b[1], b[2]), BAD);
        }
        refused("the fifth", RefusalsTest::with4Labels, x -> x.label(1, 0, 0), FULL);
        refused("the fifth, the STAR", RefusalsTest::with4Labels, x -> x.label(27, 0, 0), FULL);
    }

    private static void promise07Up() {
        refused("up(-1)", RefusalsTest::rich, x -> x.up(-1), BAD);
        refused("up(3) of two", RefusalsTest::rich, x -> x.up(3), BAD);
        refused("up(5) of four", RefusalsTest::with4Labels, x -> x.up(5), BAD);
        refused("up(1) of the ROOT", GapProofs::new, x -> x.up(1), BAD);
    }

    private static void promise08Owner() {
        int[][] bad = {{-1, 0}, {4, 0}, {0, -1}, {-1, -1}, {4, 99}, {-1, 99}, {4, -1}};
        for (int[] b : bad) refused("owner(" + b[0] + ", " + b[1] + ")", RefusalsTest::rich, x -> x.owner(b[0], b[1]), BAD);
        refused("owner(0, 4)", RefusalsTest::rich, x -> x.owner(0, 4), NONE);
        refused("owner(2, 1)", RefusalsTest::rich, x -> x.owner(2, 1), NONE);
        refused("owner(3, far)", RefusalsTest::rich, x -> x.owner(3, Integer.MAX_VALUE), NONE);
    }

    private static void promise09To11NameLetterZone() {
        refused("name(-1)", RefusalsTest::rich, x -> x.name(-1), BAD);
        refused("name(7)", RefusalsTest::rich, x -> x.name(7), BAD);
        refused("letter(-1, 0)", RefusalsTest::rich, x -> x.letter(-1, 0), BAD);
        refused("letter(2, 0)", RefusalsTest::rich, x -> x.letter(2, 0), BAD);
        refused("letter(0, -1)", RefusalsTest::rich, x -> x.letter(0, -1), BAD);
        refused("letter(0, 3)", RefusalsTest::rich, x -> x.letter(0, 3), BAD);
        refused("zone(-1, 0)", RefusalsTest::rich, x -> x.zone(-1, 0), BAD);
        refused("zone(4, 0)", RefusalsTest::rich, x -> x.zone(4, 0), BAD);
        refused("zone(0, -1)", RefusalsTest::rich, x -> x.zone(0, -1), BAD);
        refused("zone(0, 8)", RefusalsTest::rich, x -> x.zone(0, 8), BAD);
        refused("zone(0, 1)", RefusalsTest::rich, x -> x.zone(0, 1), NONE);
        refused("zone(2, 7)", RefusalsTest::rich, x -> x.zone(2, 7), NONE);
    }

    private static void promise12Key() {
        int[][] bad = {{-1, 0, 0}, {4, 0, 0}, {0, -1, 0}, {0, 0, -1}, {0, 0, 4}, {4, 99, 0}, {0, 99, 4}, {0, 99, -1}, {2, -1, 0}, {2, 0, 4}};
        for (int[] b : bad) {
            refused("key(" + b[0] + ", " + b[1] + ", " + b[2] + ")", RefusalsTest::rich, x -> x.key(b[0], b[1], b[2]), BAD);
        }
        for (int what = 0; what < 4; what++) {
            int w = what;
            refused("key(0, 2, " + w + ")", RefusalsTest::rich, x -> x.key(0, 2, w), NONE);
            refused("key(2, 0, " + w + ") of a PLAIN ZONE", RefusalsTest::rich, x -> x.key(2, 0, w), NONE);
        }
    }

    private static void promise13To15RuleAnswerAsk() {
        refused("rule(-1)", RefusalsTest::rich, x -> x.rule(-1), BAD);
        refused("rule(9)", RefusalsTest::rich, x -> x.rule(9), BAD);
        refused("answer(-1, 0)", RefusalsTest::rich, x -> x.answer(-1, 0), BAD);
        refused("answer(3, 0)", RefusalsTest::rich, x -> x.answer(3, 0), BAD);
        refused("answer(0, -1)", RefusalsTest::rich, x -> x.answer(0, -1), BAD);
        refused("answer(0, 3)", RefusalsTest::rich, x -> x.answer(0, 3), BAD);
        refused("ask(-1)", RefusalsTest::rich, x -> x.ask(-1), BAD);
        refused("ask(3)", RefusalsTest::rich, x -> x.ask(3), BAD);
        refused("ask(3) without a PROOF", RefusalsTest::bare, x -> x.ask(3), BAD);
    }

    // ---- answers, proofs

    /** BAD ahead of STATE ahead of NONE: what is BAD is so without a PROOF, too, and behind the last ITEM. */
    private static void ofItems(String call, Call bad, boolean tellsWhetherThereIs) {
        refused(call + " BAD", RefusalsTest::rich, bad, BAD);
        if (tellsWhetherThereIs) refused(call + " BAD without a PROOF", RefusalsTest::bare, bad, BAD);
    }

    private static void promise16Item() {
        ofItems("item(-1, 0)", x -> x.item(-1, 0), true);
        ofItems("item(0, -1)", x -> x.item(0, -1), true);
        ofItems("item(0, 11)", x -> x.item(0, 11), true);
        ofItems("item(5, 11)", x -> x.item(5, 11), true);
        refused("item(0, 0)", RefusalsTest::bare, x -> x.item(0, 0), STATE);
        refused("item(99, 0)", RefusalsTest::bare, x -> x.item(99, 0), STATE);
        refused("item(5, 0)", RefusalsTest::rich, x -> x.item(5, 0), NONE);
        refused("item(0, 3) of one that is no LINK", RefusalsTest::rich, x -> x.item(0, 3), NONE);
    }

    private static void promise17Lose() {
        ofItems("lose(-1)", x -> x.lose(-1), true);
        refused("lose(0)", RefusalsTest::bare, x -> x.lose(0), STATE);
        refused("lose(99)", RefusalsTest::bare, x -> x.lose(99), STATE);
        refused("lose(5)", RefusalsTest::rich, x -> x.lose(5), NONE);
    }

    private static void promise18Alter() {
        int[][] bad = {{-1, 4, 0}, {0, -1, 1}, {0, 0, 1}, {0, 3, 1}, {0, 10, 1}, {0, 4, -1}, {0, 4, 64}, {0, 5, -1}, {0, 5, 1000},
            {0, 6, -1}, {0, 6, 1000}, {0, 7, -1}, {0, 7, 1000}, {0, 8, 0}, {0, 8, 1000}, {0, 9, -1}, {0, 9, 9973}, {5, 3, 1}, {5, 4, 64}};
        for (int[] b : bad) ofItems("alter(" + b[0] + ", " + b[1] + ", " + b[2] + ")", x -> x.alter(b[0], b[1], b[2]), true);
        refused("alter(0, 4, 0)", RefusalsTest::bare, x -> x.alter(0, 4, 0), STATE);
        refused("alter(99, 4, 0)", RefusalsTest::bare, x -> x.alter(99, 4, 0), STATE);
        refused("alter(5, 4, 0)", RefusalsTest::rich, x -> x.alter(5, 4, 0), NONE);
    }

    private static void promise19Rename() {
        ofItems("rename(-1, 0)", x -> x.rename(-1, 0), true);
        ofItems("rename(0, -1)", x -> x.rename(0, -1), true);
        ofItems("rename(0, 2)", x -> x.rename(0, 2), true);
        ofItems("rename(5, 2)", x -> x.rename(5, 2), true);
        refused("rename(0, 0)", RefusalsTest::bare, x -> x.rename(0, 0), STATE);
        refused("rename(0, 1)", RefusalsTest::bare, x -> x.rename(0, 1), STATE);
        refused("rename(5, 0)", RefusalsTest::rich, x -> x.rename(5, 0), NONE);
        refused("rename(5, 1)", RefusalsTest::rich, x -> x.rename(5, 1), NONE);
        for (int i = 0; i < 4; i++) {
            int at = i;
            refused("rename(" + i + ", 1) of one that is no LINK", RefusalsTest::rich, x -> x.rename(at, 1), NONE);
        }
    }

    private static void promise20Sign() {
        ofItems("sign(-1)", x -> x.sign(-1), true);
        refused("sign(0)", RefusalsTest::bare, x -> x.sign(0), STATE);
        refused("sign(99)", RefusalsTest::bare, x -> x.sign(99), STATE);
        refused("sign(5)", RefusalsTest::rich, x -> x.sign(5), NONE);
    }

    private static void promise21And22CheckChecked() {
        refused("check()", RefusalsTest::bare, GapProofs::check, STATE);
        refused("check() of what is new", GapProofs::new, GapProofs::check, STATE);
        ofItems("checked(-1)", x -> x.checked(-1), true);
        ofItems("checked(3)", x -> x.checked(3), true);
        for (int what = 0; what < 3; what++) {
            int w = what;
            refused("checked(" + w + ")", RefusalsTest::bare, x -> x.checked(w), STATE);
        }
    }

    private static void promise23Entry() {
        ofItems("entry(-1, 0)", x -> x.entry(-1, 0), true);
        ofItems("entry(0, -1)", x -> x.entry(0, -1), true);
        ofItems("entry(0, 7)", x -> x.entry(0, 7), true);
        ofItems("entry(4, 7)", x -> x.entry(4, 7), true);
        refused("entry(4, 0)", RefusalsTest::rich, x -> x.entry(4, 0), NONE);
        refused("entry(0, 0) of none", RefusalsTest::bare, x -> x.entry(0, 0), NONE);
    }

    // ---- the clock, keys

    private static void promise24Tick() {
        for (int n : new int[] {0, -1, 1000000001, Integer.MAX_VALUE, Integer.MIN_VALUE}) {
            refused("tick(" + n + ")", RefusalsTest::rich, x -> x.tick(n), BAD);
            refused("tick(" + n + ") at the end of time", RefusalsTest::atTheEndOfTime, x -> x.tick(n), BAD);
        }
        refused("tick(1) at the end of time", RefusalsTest::atTheEndOfTime, x -> x.tick(1), FULL);
        refused("tick(1000000000) at the end of time", RefusalsTest::atTheEndOfTime, x -> x.tick(1000000000), FULL);
    }

    interface OfKey { int on(GapProofs x, int z, int k); }

    /** A ZONE or a KEY that is not is BAD, of a PLAIN ZONE and where there is no room, too; then a PLAIN ZONE is STATE. */
    private static void ofKeys(String call, OfKey c) {
        int[][] bad = {{-1, 20}, {4, 20}, {1, 0}, {1, 1000}, {1, -1}, {2, 0}, {2, 1000}, {4, 1000}};
        for (int[] b : bad) {
            refused(call + "(" + b[0] + ", " + b[1] + ")", RefusalsTest::rich, x -> c.on(x, b[0], b[1]), BAD);
            refused(call + "(" + b[0] + ", " + b[1] + ") of many", RefusalsTest::withManyKeys, x -> c.on(x, b[0], b[1]), BAD);
        }
        refused(call + "(2, 1) of a PLAIN ZONE", RefusalsTest::rich, x -> c.on(x, 2, 1), STATE);
        refused(call + "(2, 999) of a PLAIN ZONE", RefusalsTest::rich, x -> c.on(x, 2, 999), STATE);
        refused(call + "(2, 12) of a PLAIN ZONE", RefusalsTest::rich, x -> c.on(x, 2, 12), STATE);
    }

    private static void promise25Publish() {
        ofKeys("publish", GapProofs::publish);
        refused("publish(1, 11) that is out", RefusalsTest::rich, x -> x.publish(1, 11), STATE);
        refused("publish(1, 30), the third of three", RefusalsTest::withManyKeys, x -> x.publish(1, 30), STATE);
        refused("publish(1, 40), the fourth", RefusalsTest::withManyKeys, x -> x.publish(1, 40), FULL);
        refused("publish(0, 40), the fourth", RefusalsTest::withManyKeys, x -> x.publish(0, 40), FULL);
    }

    private static void promise26Retire() {
        ofKeys("retire", GapProofs::retire);
        refused("retire(1, 40) that is not out", RefusalsTest::withManyKeys, x -> x.retire(1, 40), STATE);
        refused("retire(1, 21) with a digest alone", RefusalsTest::rich, x -> x.retire(1, 21), STATE);
        refused("retire(1, 11) that is ACTIVE", RefusalsTest::withManyKeys, x -> x.retire(1, 11), STATE);
        refused("retire(0, 10) that is ACTIVE", RefusalsTest::withManyKeys, x -> x.retire(0, 10), STATE);
    }

    private static void promise27Digest() {
        ofKeys("digest", GapProofs::digest);
        refused("digest(3, 13) that is there", RefusalsTest::rich, x -> x.digest(3, 13), STATE);
        refused("digest(1, 20), the second of two", RefusalsTest::withManyKeys, x -> x.digest(1, 20), STATE);
        refused("digest(1, 30), the third", RefusalsTest::withManyKeys, x -> x.digest(1, 30), FULL);
        refused("digest(0, 30), the third of TRUST", RefusalsTest::withManyKeys, x -> x.digest(0, 30), FULL);
    }

    private static void promise28Undigest() {
        ofKeys("undigest", GapProofs::undigest);
        refused("undigest(1, 30) that is not there", RefusalsTest::withManyKeys, x -> x.undigest(1, 30), STATE);
        refused("undigest(0, 30) that is not there", RefusalsTest::withManyKeys, x -> x.undigest(0, 30), STATE);
        refused("undigest(0, 10), the last one", RefusalsTest::bare, x -> x.undigest(0, 10), STATE);
        refused("undigest(0, 11) that is not there, of one", RefusalsTest::bare, x -> x.undigest(0, 11), STATE);
    }

    private static void promise29And30WhyActivate() {
        ofKeys("why", GapProofs::why);
        ofKeys("activate", GapProofs::activate);
        refused("activate(1, 11) that is ACTIVE", RefusalsTest::withManyKeys, x -> x.activate(1, 11), STATE);
        refused("activate(1, 40) that is not out", RefusalsTest::withManyKeys, x -> x.activate(1, 40), STATE);
        refused("activate(1, 21) with a digest alone", RefusalsTest::rich, x -> x.activate(1, 21), STATE);
    }

    // ---- records, images

    private static void promise31Put() {
        int[][] bad = {{-1, 5}, {3, 5}, {0, -1}, {0, 100}, {3, 100}};
        for (int[] b : bad) {
            refused("put(" + b[0] + ", " + b[1] + ")", RefusalsTest::rich, x -> x.put(b[0], b[1]), BAD);
            refused("put(" + b[0] + ", " + b[1] + "), the 25th", RefusalsTest::with24Records, x -> x.put(b[0], b[1]), BAD);
        }
        for (int sort = 0; sort < 3; sort++) {
            int s = sort;
            refused("put(" + s + ", 5), the 25th", RefusalsTest::with24Records, x -> x.put(s, 5), FULL);
        }
    }

    private static void promise32Remove() {
        refused("remove(-1)", RefusalsTest::rich, x -> x.remove(-1), BAD);
        refused("remove(3)", RefusalsTest::rich, x -> x.remove(3), BAD);
        for (int sort = 0; sort < 3; sort++) {
            int s = sort;
            refused("remove(" + s + ")", RefusalsTest::rich, x -> x.remove(s), NONE);
            refused("remove(" + s + ") of 24", RefusalsTest::with24Records, x -> x.remove(s), NONE);
        }
    }

    private static void promise33And34KeepBack() {
        refused("keep(-1)", RefusalsTest::rich, x -> x.keep(-1), BAD);
        refused("keep(2)", RefusalsTest::rich, x -> x.keep(2), BAD);
        refused("back(-1)", RefusalsTest::rich, x -> x.back(-1), BAD);
        refused("back(2)", RefusalsTest::rich, x -> x.back(2), BAD);
        refused("back(2) of no IMAGE", RefusalsTest::bare, x -> x.back(2), BAD);
        refused("back(0) of no IMAGE", RefusalsTest::bare, x -> x.back(0), STATE);
        refused("back(1) of no IMAGE", RefusalsTest::bare, x -> x.back(1), STATE);
        refused("back(1) beside IMAGE 0", RefusalsTest::withImage0, x -> x.back(1), STATE);
    }

    private static GapProofs withImage0() {
        GapProofs x = bare();
        x.ask(0);
        x.check();
        x.keep(0);
        x.put(1, 3);
        return x;
    }
}
