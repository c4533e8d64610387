/** The boundary cases of promises 31 to 34: records by hand, IMAGES. */
public final class BoundaryPromises31To34Test extends Bench {
    public static void main(String[] args) {
        finish("boundaries of promises 31 to 34: " + runAll(BoundaryPromises31To34Test.class) + " tests");
    }

    private static final String TEXT = "zone a;plain p;rec b.a t 5;rec c.p m 6;span 7;";

    /** RECORD n, 0 on, is of the n-th third of a letter, and its VALUE is n. */
    private static GapProofs with24Records() {
        GapProofs x = new GapProofs();
        for (int n = 0; n < 24; n++) {
            goTo(x, n);
            due("put, the " + (n + 1) + ". one", x.put(n % 3, n), NONE);
        }
        due("rule(1)", x.rule(1), 24);
        return x;
    }

    private static void goTo(GapProofs x, int n) {
        x.up(x.name(0));
        x.label(1 + n / 3, 0, 0);
    }

    private static void recordsAreBut(GapProofs x, int gone) {
        for (int n = 0; n < 24; n++) {
            goTo(x, n);
            due("the VALUE of RECORD " + n, x.answer(n % 3, 1), n == gone ? NONE : n);
        }
    }

    // ---- 31

    private static void promise31PutOfNoSuchSortIsBad() {
        GapProofs x = told(TEXT);
        for (int sort : new int[] {-1, 3, Integer.MIN_VALUE, Integer.MAX_VALUE}) due("put(" + sort + ", 5)", x.put(sort, 5), BAD);
        due("rule(1)", x.rule(1), 2);
    }

    private static void promise31PutTheLeastAndTheGreatestValue() {
        GapProofs x = told(TEXT);
        call(x, "b.a");
        for (int sort = 0; sort < 3; sort++) {
            due("put(" + sort + ", 0)", x.put(sort, 0), sort == 1 ? 5 : NONE);
            due("answer(" + sort + ", 1)", x.answer(sort, 1), 0);
            due("put(" + sort + ", 99)", x.put(sort, 99), 0);
            due("answer(" + sort + ", 1)", x.answer(sort, 1), 99);
        }
        due("rule(1)", x.rule(1), 4);
    }

    private static void promise31PutOfAValueBeyondIsBad() {
        GapProofs x = told(TEXT);
        call(x, "b.a");
        for (int v : new int[] {-1, 100, Integer.MIN_VALUE, Integer.MAX_VALUE}) {
            due("put(1, " + v + ")", x.put(1, v), BAD);
            due("put(0, " + v + ")", x.put(0, v), BAD);
        }
        due("answer(1, 1)", x.answer(1, 1), 5);
        due("rule(1)", x.rule(1), 2);
    }

    private static void promise31PutThe24thIsTakenThe25thIsFull() {
        GapProofs x = with24Records();
        goTo(x, 24);
        for (int sort = 0; sort < 3; sort++) due("the 25th, put(" + sort + ", 5)", x.put(sort, 5), FULL);
        due("name(2)", x.name(2), 0);
        due("rule(1)", x.rule(1), 24);
        recordsAreBut(x, NONE);
    }

    private static void promise31PutOfAValueForOneThatIsThereWhenThereAre24() {
        GapProofs x = with24Records();
        for (int n : new int[] {0, 11, 23}) {
            goTo(x, n);
            due("put for RECORD " + n, x.put(n % 3, 50), n);
            due("put for RECORD " + n + " again", x.put(n % 3, n), 50);
        }
        due("rule(1)", x.rule(1), 24);
        recordsAreBut(x, NONE);
    }

    private static void promise31PutBadIsAheadOfFull() {
        GapProofs x = with24Records();
        goTo(x, 24);
        int[][] bad = {{-1, 5}, {3, 5}, {0, -1}, {0, 100}};
        for (int[] b : bad) due("put(" + b[0] + ", " + b[1] + ")", x.put(b[0], b[1]), BAD);
    }

    private static void promise31PutHasRoomAgainBehindRemove() {
        GapProofs x = with24Records();
        goTo(x, 24);
        due("put, the 25th", x.put(0, 5), FULL);
        goTo(x, 3);
        due("remove", x.remove(0), 3);
        goTo(x, 24);
        due("put, the 24th", x.put(0, 5), NONE);
        due("put, the 25th", x.put(1, 5), FULL);
    }

    private static void promise31PutOfAnyName() {
        GapProofs x = told(TEXT);
        String[] names = {".", "*", "a", "p", "*.a", "z.y.x.w", "*.*.*.*", "d.p"};
        int[] zones = {0, 0, 1, 2, 1, 0, 0, 2};
        for (int i = 0; i < names.length; i++) {
            call(x, names[i]);
            due("put at " + names[i], x.put(0, i), NONE);
            due("answer", x.answer(0, 1), i);
            due("the ZONE of it", x.name(1), zones[i]);
            same("THE NAME stays", dotted(x), names[i]);
        }
        row("RECORDS IN ZONES", new int[] {x.zone(0, 4), x.zone(1, 4), x.zone(2, 4)}, 4, 3, 3);
        due("rule(1)", x.rule(1), 10);
    }

    // ---- 32

    private static void promise32RemoveOfNoSuchSortIsBad() {
        GapProofs x = told(TEXT);
        call(x, "b.a");
        for (int sort : new int[] {-1, 3, Integer.MIN_VALUE, Integer.MAX_VALUE}) due("remove(" + sort + ")", x.remove(sort), BAD);
        due("rule(1)", x.rule(1), 2);
    }

    private static void promise32RemoveOfNoneIsNone() {
        GapProofs x = new GapProofs();
        for (int sort = 0; sort < 3; sort++) due("remove(" + sort + ") of none at all", x.remove(sort), NONE);
        x = told(TEXT);
        call(x, "b.a");
        due("remove(0) of another SORT", x.remove(0), NONE);
        call(x, "b.b.a");
        due("remove(1) of another NAME", x.remove(1), NONE);
        call(x, "a");
        due("remove(1) of a NAME ABOVE", x.remove(1), NONE);
        due("rule(1)", x.rule(1), 2);
    }

    private static void promise32RemoveOfTheLeastAndTheGreatestValue() {
        GapProofs x = told("rec a a 0;rec a t 99;");
        call(x, "a");
        due("remove(0)", x.remove(0), 0);
        due("remove(0) again", x.remove(0), NONE);
        due("name(3)", x.name(3), 2);
        due("remove(1)", x.remove(1), 99);
        due("rule(1)", x.rule(1), 0);
        due("name(2)", x.name(2), 0);
    }

    private static void promise32RemoveLeavesAllOthers() {
        for (int n : new int[] {0, 1, 12, 22, 23}) {
            GapProofs x = with24Records();
            goTo(x, n);
            due("remove of RECORD " + n, x.remove(n % 3), n);
            due("rule(1)", x.rule(1), 23);
            recordsAreBut(x, n);
        }
    }

    private static void promise32RemoveOfAnApexLeavesTheOwner() {
        GapProofs x = told("zone a;rec a t 5;rec b.a t 6;");
        call(x, "a");
        due("remove(1)", x.remove(1), 5);
        row("a", nameRow(x, "a"), 1, 1, 1, 32, 0, 0, 1);
        call(x, "b.a");
        due("remove(1)", x.remove(1), 6);
        due("OWNERS", x.zone(1, 3), 1);
    }

    // ---- 33

    private static void promise33KeepOfNoImageIsBad() {
        GapProofs x = told(TEXT);
        for (int k : new int[] {-1, 2, Integer.MIN_VALUE, Integer.MAX_VALUE}) due("keep(" + k + ")", x.keep(k), BAD);
        due("rule(8)", x.rule(8), 0);
    }

    private static void promise33KeepAnswersWhetherThereWasOne() {
        GapProofs x = told(TEXT);
        due("keep(1)", x.keep(1), 0);
        due("keep(0)", x.keep(0), 0);
        due("keep(1) again", x.keep(1), 1);
        due("keep(0) again", x.keep(0), 1);
        x.back(0);
        due("keep(0) behind back()", x.keep(0), 1);
        tell(x, "zone .;");
        due("keep(0) behind a FAULT", x.keep(0), 1);
        tell(x, "");
        due("keep(0) ANEW", x.keep(0), 0);
    }

    private static void promise33KeepChangesNothingElse() {
        GapProofs x = changed(), y = changed();
        x.keep(0);
        x.keep(1);
        int[] seen = atOnce(x), due = atOnce(y);
        due("IMAGES", seen[8], 2);
        seen[8] = due[8];
        row("all that can be read at once", seen, due);
        x = changed();
        x.keep(0);
        row("ITEMS and ENTRIES", itemsAndEntries(x), itemsAndEntries(changed()));
    }

    /** With RECORDS, KEYS, DIGESTS, TRUST, CLOCK, THE CACHE as no text tells them, a PROOF and a check(). */
    private static GapProofs changed() {
        GapProofs x = told(TEXT);
        x.tick(3);
        call(x, "b.a");
        x.put(1, 55);
        x.put(2, 66);
        x.publish(1, 20);
        x.tick(1);
        x.digest(1, 20);
        x.activate(1, 20);
        x.publish(0, 30);
        x.digest(0, 30);
        x.activate(0, 30);
        x.retire(0, 10);
        x.undigest(0, 10);
        x.ask(1);
        due("check()", x.check(), 0);
        return x;
    }

    /** Nothing of what an IMAGE is stays as it was. */
    private static void change(GapProofs x) {
        x.tick(100);
        call(x, "b.a");
        x.remove(1);
        x.put(2, 1);
        call(x, "q");
        x.put(0, 9);
        x.activate(1, 11);
        x.retire(1, 20);
        x.publish(1, 40);
        x.undigest(1, 11);
        x.publish(0, 50);
        x.activate(0, 50);
        x.digest(0, 50);
        askAndCheck(x, "c.p", 2);
    }

    private static void promise33KeepTheImageIsRecords() {
        GapProofs x = changed();
        x.keep(0);
        change(x);
        due("back(0)", x.back(0), 3);
        answerIs(x, "b.a", 1, 0, 55);
        answerIs(x, "b.a", 2, 0, 66);
        answerIs(x, "c.p", 2, 0, 6);
        answerIs(x, "q", 0, 4, NONE);
        due("rule(1)", x.rule(1), 3);
    }

    private static void promise33KeepTheImageIsKeysDigestsTrust() {
        GapProofs x = changed();
        x.keep(1);
        change(x);
        due("back(1)", x.back(1), 3);
        row("KEYS of ZONE 1", with(keyRow(x, 1, 0), keyRow(x, 1, 2)), 11, 20, 0, 3);
        row("DIGESTS of ZONE 1", with(keyRow(x, 1, 1), keyRow(x, 1, 3)), 11, 20, 0, 4);
        row("KEYS of ZONE 0", with(keyRow(x, 0, 0), keyRow(x, 0, 2)), 30, 4);
        row("TRUST", with(keyRow(x, 0, 1), keyRow(x, 0, 3)), 30, 4);
        row("ACTIVE KEYS", new int[] {x.zone(0, 7), x.zone(1, 7), x.zone(2, 7)}, 30, 20, NONE);
    }

    private static void promise33KeepTheImageIsClockAndTheCache() {
        GapProofs x = changed();
        x.keep(0);
        change(x);
        due("CLOCK ahead of back()", x.rule(2), 104);
        due("back(0)", x.back(0), 3);
        due("CLOCK", x.rule(2), 4);
        row("ENTRIES", entries(x), 1, 10, 11);
        row("ENTRY 0", entryRow(x, 0), 0, 1, 30, 0, 0, 1, 7);
        row("ENTRY 1", entryRow(x, 1), 1, 0, 11, 20, 0, 1, 7);
        row("ENTRY 2", entryRow(x, 2), 1, 1, 11, 20, 0, 1, 7);
    }

    private static void promise33KeepTheImageIsNotTheNameTheTapeTheFault() {
        GapProofs x = changed();
        tell(x, "span 0;");
        write(x, "zone q;");
        x.keep(0);
        call(x, "z.y");
        tell(x, "?");
        write(x, "zone r.s;");
        due("back(0)", x.back(0), 3);
        same("THE NAME", dotted(x), "z.y");
        due("THE TAPE", x.rule(7), 9);
        due("fault()", x.fault(), 1);
        due("text()", x.text(), 1);
        due("LABELS of the APEX", x.zone(1, 2), 2);
    }

    private static void promise33KeepTheImageStaysAsItWas() {
        GapProofs x = changed(), y = changed();
        x.keep(0);
        y.keep(0);
        change(x);
        x.back(0);
        change(x);
        x.tick(1);
        row("an IMAGE that was taken twice", byBack(x, 0), byBackFrom(y));
    }

    /** But for THE NAME and IMAGES, which no IMAGE tells. */
    private static int[] byBackFrom(GapProofs y) {
        call(y, "c.p");
        return byBack(y, 0);
    }

    private static void promise33KeepInPlaceOfTheImageThatWas() {
        GapProofs x = told(TEXT);
        x.keep(0);
        x.tick(3);
        call(x, "q");
        x.put(0, 1);
        due("keep(0)", x.keep(0), 1);
        x.tick(3);
        due("back(0)", x.back(0), 3);
        due("CLOCK", x.rule(2), 3);
    }

    private static void promise33KeepTheImagesAreApart() {
        GapProofs x = told(TEXT);
        x.keep(0);
        x.tick(3);
        call(x, "q");
        x.put(0, 1);
        x.publish(1, 20);
        x.keep(1);
        x.tick(3);
        due("back(0)", x.back(0), 2);
        row("CLOCK, KEYS", new int[] {x.rule(2), x.zone(1, 5)}, 0, 1);
        due("back(1)", x.back(1), 3);
        row("CLOCK, KEYS", new int[] {x.rule(2), x.zone(1, 5)}, 3, 2);
        due("back(0) again", x.back(0), 2);
        due("IMAGES", x.rule(8), 2);
    }

    // ---- 34

    private static void promise34BackOfNoImageIsBad() {
        for (int k : new int[] {-1, 2, Integer.MIN_VALUE, Integer.MAX_VALUE}) {
            GapProofs x = told(TEXT);
            due("back(" + k + ") where there is none", x.back(k), BAD);
            x.keep(0);
            x.keep(1);
            due("back(" + k + ")", x.back(k), BAD);
        }
    }

    private static void promise34BackOfOneThatIsNotThereIsState() {
        GapProofs x = told(TEXT);
        due("back(0)", x.back(0), STATE);
        due("back(1)", x.back(1), STATE);
        x.keep(1);
        due("back(0) beside IMAGE 1", x.back(0), STATE);
        due("back(1)", x.back(1), 2);
        tell(x, TEXT);
        due("back(1) ANEW", x.back(1), STATE);
    }

    private static void promise34BackThatIsRefusedLeavesAll() {
        GapProofs x = changed();
        x.keep(0);
        x.ask(1);
        due("back(1)", x.back(1), STATE);
        due("rule(4)", x.rule(4), 4);
        due("checked(0)", x.checked(0), 55);
        due("check()", x.check(), 0);
    }

    private static void promise34BackAnswersHowManyRecords() {
        GapProofs x = new GapProofs();
        x.keep(0);
        x.put(0, 1);
        x.keep(1);
        due("none", x.back(0), 0);
        due("one", x.back(1), 1);
        x = with24Records();
        x.keep(0);
        x.remove(2);
        due("24", x.back(0), 24);
        recordsAreBut(x, NONE);
    }

    private static void promise34BackThereIsNoProof() {
        GapProofs x = changed();
        x.keep(0);
        x.back(0);
        due("rule(4)", x.rule(4), NONE);
        due("item(0, 0)", x.item(0, 0), STATE);
        due("lose(0)", x.lose(0), STATE);
        due("alter(0, 4, 0)", x.alter(0, 4, 0), STATE);
        due("rename(0, 0)", x.rename(0, 0), STATE);
        due("sign(0)", x.sign(0), STATE);
        due("check()", x.check(), STATE);
        due("ask(1)", x.ask(1), 4);
        due("check() then", x.check(), 0);
    }

    private static void promise34BackThereWasNoCheck() {
        GapProofs x = changed();
        x.keep(0);
        due("checked(0)", x.checked(0), 55);
        x.back(0);
        for (int what = 0; what < 3; what++) due("checked(" + what + ")", x.checked(what), STATE);
    }

    private static void promise34BackMakesEntriesAliveAgainWithTheClock() {
        GapProofs x = told("rec a a 1;span 5;");
        askAndCheck(x, "a", 0);
        x.tick(4);
        x.keep(0);
        x.tick(1);
        due("rule(6)", x.rule(6), 0);
        x.back(0);
        row("ENTRY 0", entryRow(x, 0), 0, 1, 10, 0, 0, 1, 1);
        x.tick(1);
        row("ENTRY 0 then", entryRow(x, 0), 0, 1, 10, 0, 0, 0, 0);
    }

    private static void promise34BackWithTheMostOfAll() {
        GapProofs x = told("zone a;zone b;rec e.a a 2;rec e.b a 3;");
        for (int z = 0; z < 3; z++) {
            x.publish(z, 1);
            x.publish(z, 999);
            x.digest(z, 999);
        }
        askAndCheck(x, "e.a", 0);
        askAndCheck(x, "e.b", 0);
        row("ENTRIES", entries(x), 10, 11, 20, 21);
        x.keep(0);
        x.keep(1);
        x.tick(10);
        askAndCheck(x, "e.a", 0);
        x.retire(2, 999);
        x.undigest(2, 12);
        due("back(1)", x.back(1), 2);
        row("ENTRIES", entries(x), 10, 11, 20, 21);
        row("ENTRY 3", entryRow(x, 3), 2, 1, 1, 12, 999, 1, 10);
        row("KEYS of ZONE 2", keyRow(x, 2, 0), 1, 12, 999);
        row("DIGESTS of ZONE 2", keyRow(x, 2, 1), 12, 999);
    }
}
