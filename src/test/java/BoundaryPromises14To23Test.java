/** The boundary cases of promises 14 to 23: answers, THE PROOF and its ITEMS, checks, ENTRIES. */
public final class BoundaryPromises14To23Test extends Bench {
    public static void main(String[] args) {
        finish("boundaries of promises 14 to 23: " + runAll(BoundaryPromises14To23Test.class) + " tests");
    }

    private static final String TEXT = "zone a;plain p;zone s.p;rec b.a t 0;rec *.a m 99;rec c.p a 3;rec d.s.p a 4;";

    private static GapProofs asked(String name, int sort) {
        GapProofs x = told(TEXT);
        ask(x, name, sort);
        return x;
    }

    /** KEYS of ZONE 0, DIGESTS and KEYS of ZONE 1, the RECORD of the STAR, a LINK: one of each kind at least. */
    private static GapProofs ofEachKind() {
        GapProofs x = asked("q.a", 2);
        row("kinds", kinds(x), 1, 10, 11, 12, 13);
        return x;
    }

    private static GapProofs withoutItems() {
        GapProofs x = ofEachKind();
        while (x.rule(4) > 0) x.lose(0);
        return x;
    }

    // ---- 14

    private static void promise14AnswerOfNoSuchSortOrThingIsBad() {
        GapProofs x = told(TEXT);
        int[][] bad = {{-1, 0}, {3, 0}, {0, -1}, {0, 3}, {3, 3}, {-1, 2}};
        for (int[] b : bad) due("answer(" + b[0] + ", " + b[1] + ")", x.answer(b[0], b[1]), BAD);
        for (int far : FAR) {
            due("answer(far, 0)", x.answer(far, 0), BAD);
            due("answer(0, far)", x.answer(0, far), BAD);
        }
    }

    private static void promise14AnswerEachOfThem() {
        GapProofs x = told(TEXT);
        answerIs(x, "b.a", 1, 0, 0);
        answerIs(x, "b.a", 2, 1, NONE);
        answerIs(x, "q.a", 2, 2, 99);
        answerIs(x, "q.a", 1, 3, NONE);
        answerIs(x, "q.b.a", 1, 4, NONE);
    }

    private static void promise14AnswerTheLeastAndTheGreatestValue() {
        GapProofs x = told("rec a a 0;rec b a 99;rec *.c t 0;");
        answerIs(x, "a", 0, 0, 0);
        answerIs(x, "b", 0, 0, 99);
        answerIs(x, "q.c", 1, 2, 0);
    }

    private static void promise14AnswerWhetherAllZonesDownAreSigned() {
        GapProofs x = told(TEXT);
        String[] names = {".", "z", "a", "q.a", "p", "c.p", "s.p", "d.s.p", "z.z.s.p"};
        int[] all = {1, 1, 1, 1, 0, 0, 0, 0, 0};
        for (int i = 0; i < names.length; i++) {
            call(x, names[i]);
            for (int sort = 0; sort < 3; sort++) due("answer(" + sort + ", 2) to " + names[i], x.answer(sort, 2), all[i]);
        }
        // A PLAIN ZONE beside the way, or below, is not asked.
        x = told("zone a;plain b.a;plain c;");
        call(x, "z.a");
        due("answer(0, 2) to z.a", x.answer(0, 2), 1);
    }

    private static void promise14AnswerChangesWithTheRecords() {
        GapProofs x = told(TEXT);
        call(x, "q.a");
        due("WILD", x.answer(2, 0), 2);
        x.put(0, 5);
        due("NO SORT", x.answer(2, 0), 1);
        x.put(2, 6);
        due("FOUND", x.answer(2, 0), 0);
        x.remove(0);
        x.remove(2);
        due("WILD again", x.answer(2, 0), 2);
        call(x, "*.a");
        x.remove(2);
        call(x, "q.a");
        due("NO NAME", x.answer(2, 0), 4);
    }

    // ---- 15

    private static void promise15AskOfNoSuchSortIsBad() {
        GapProofs x = told(TEXT);
        for (int sort : new int[] {-1, 3, Integer.MIN_VALUE, Integer.MAX_VALUE}) due("ask(" + sort + ")", x.ask(sort), BAD);
        due("rule(4)", x.rule(4), NONE);
        due("check()", x.check(), STATE);
    }

    private static void promise15AskThatIsRefusedLeavesTheProof() {
        GapProofs x = ofEachKind();
        x.tick(3);
        call(x, "b.a");
        due("ask(3)", x.ask(3), BAD);
        due("ask(-1)", x.ask(-1), BAD);
        row("kinds", kinds(x), 1, 10, 11, 12, 13);
        due("check()", x.check(), 2);
        due("in how many minutes ENTRY 0 ends", x.entry(0, 6), 7);
    }

    private static void promise15AskTheFewestAndTheMostItems() {
        due("of the ROOT", new GapProofs().ask(0), 2);
        due("of a PLAIN ZONE below the ROOT", ask(told("plain a;"), "z.a", 0), 2);
        due("through four ZONES", ask(told("zone a;zone b.a;zone c.b.a;rec d.c.b.a a 1;"), "e.c.b.a", 2), 9);
    }

    private static void promise15AskAnswersHowManyItemsThereAre() {
        GapProofs x = told(TEXT);
        String[] names = {"b.a", "b.a", "q.a", "q.a", "q.b.a", "z", "p", "d.s.p"};
        int[] sorts = {1, 0, 2, 0, 0, 0, 0, 0}, items = {4, 4, 5, 5, 4, 3, 2, 2};
        for (int i = 0; i < names.length; i++) {
            due("ask(" + sorts[i] + ") of " + names[i], ask(x, names[i], sorts[i]), items[i]);
            due("rule(4)", x.rule(4), items[i]);
        }
    }

    // ---- 16

    private static void promise16ItemAtAndBehindTheLast() {
        GapProofs x = ofEachKind();
        due("item(4, 0)", x.item(4, 0), 3);
        for (int what = 0; what <= 10; what++) {
            due("item(5, " + what + ")", x.item(5, what), NONE);
            due("item(far, " + what + ")", x.item(Integer.MAX_VALUE, what), NONE);
        }
        x.lose(4);
        due("item(4, 0) then", x.item(4, 0), NONE);
        due("item(3, 0)", x.item(3, 0), 2);
    }

    private static void promise16ItemWithoutAProofIsState() {
        GapProofs x = told(TEXT);
        for (int what = 0; what <= 10; what++) due("item(0, " + what + ")", x.item(0, what), STATE);
        due("item(far, 0)", x.item(Integer.MAX_VALUE, 0), STATE);
        due("item(0, 0) of a PROOF without ITEMS", withoutItems().item(0, 0), NONE);
    }

    private static void promise16ItemBadIsAheadOfStateAndNone() {
        GapProofs[] all = {told(TEXT), ofEachKind(), withoutItems()};
        int[][] bad = {{-1, 0}, {Integer.MIN_VALUE, 0}, {0, -1}, {0, 11}, {99, 11}, {-1, 11}};
        for (GapProofs x : all) for (int[] b : bad) due("item(" + b[0] + ", " + b[1] + ")", x.item(b[0], b[1]), BAD);
        for (int far : FAR) due("item(0, far)", all[1].item(0, far), BAD);
    }

    private static void promise16ItemNextOfOneThatIsNoLinkIsNone() {
        GapProofs x = ofEachKind();
        row("LABELS of NEXT", new int[] {x.item(0, 3), x.item(1, 3), x.item(2, 3), x.item(3, 3), x.item(4, 3)}, NONE, NONE, NONE, NONE, 1);
        ask(x, "z", 0);
        due("NEXT that is the ROOT", x.item(1, 3), 0);
    }

    private static void promise16ItemEachThing() {
        GapProofs x = ofEachKind();
        itemIs(x, 0, ".", null, 1, 0, 0, 10, 0, 0, 10);
        itemIs(x, 1, "a", null, 0, 1, 0, 11, 0, 0, 10);
        itemIs(x, 2, "a", null, 1, 1, 0, 11, 0, 0, 11);
        recordIs(x, 3, 1, "*.a", 2, 99, 11);
        x = asked("q.a", 0);
        linkIs(x, 3, 1, "*.a", "b.a", 4, 11);
        linkIs(x, 4, 1, "b.a", "a", 2, 11);
    }

    // ---- 17

    private static void promise17LoseAtAndBehindTheLast() {
        GapProofs x = ofEachKind();
        due("lose(5)", x.lose(5), NONE);
        due("lose(far)", x.lose(Integer.MAX_VALUE), NONE);
        due("lose(4)", x.lose(4), 4);
        due("lose(4) again", x.lose(4), NONE);
        row("kinds", kinds(x), 1, 10, 11, 12);
    }

    private static void promise17LoseTheFirstAndOneBetween() {
        GapProofs x = ofEachKind();
        due("lose(2)", x.lose(2), 4);
        row("kinds", kinds(x), 1, 10, 12, 13);
        due("lose(0)", x.lose(0), 3);
        row("kinds", kinds(x), 10, 12, 13);
        recordIs(x, 1, 1, "*.a", 2, 99, 11);
    }

    private static void promise17LoseTheLastOneThatIsLeft() {
        GapProofs x = ofEachKind();
        for (int left = 4; left >= 0; left--) due("lose(0)", x.lose(0), left);
        due("lose(0) of none", x.lose(0), NONE);
        due("rule(4)", x.rule(4), 0);
        due("there is a PROOF still", x.check(), -22);
    }

    private static void promise17LoseWithoutAProofIsStateAndBadIsAhead() {
        GapProofs x = told(TEXT);
        due("lose(0)", x.lose(0), STATE);
        due("lose(99)", x.lose(99), STATE);
        due("lose(-1)", x.lose(-1), BAD);
        due("lose(-1) of a PROOF", ofEachKind().lose(-1), BAD);
        due("lose(-1) of a PROOF without ITEMS", withoutItems().lose(-1), BAD);
        due("lose(far)", ofEachKind().lose(Integer.MIN_VALUE), BAD);
    }

    /** What was lost is not in the way of what the next ask() makes. */
    private static void promise17LoseIsOverWithTheNextAsk() {
        GapProofs x = ofEachKind();
        x.alter(1, 5, 77);
        x.lose(1);
        x.lose(0);
        due("ask(2)", ask(x, "q.a", 2), 5);
        row("THE PROOF", itemsAndEntries(x), itemsAndEntries(ofEachKind()));
    }

    // ---- 18

    private static void alterFrom(int what, int least, int greatest) {
        for (int i = 0; i < 5; i++) {
            GapProofs x = ofEachKind();
            int was = x.item(i, what);
            due("alter(" + i + ", " + what + ", least)", x.alter(i, what, least), was);
            due("item(" + i + ", " + what + ")", x.item(i, what), least);
            due("alter(" + i + ", " + what + ", greatest)", x.alter(i, what, greatest), least);
            due("alter(" + i + ", " + what + ", below)", x.alter(i, what, least - 1), BAD);
            due("alter(" + i + ", " + what + ", above)", x.alter(i, what, greatest + 1), BAD);
            for (int far : FAR) due("alter(" + i + ", " + what + ", far)", x.alter(i, what, far), BAD);
            due("item(" + i + ", " + what + ")", x.item(i, what), greatest);
            due("alter(" + i + ", " + what + ", what it is)", x.alter(i, what, greatest), greatest);
        }
    }

    private static void promise18AlterSortIs0To63() {
        alterFrom(4, 0, 63);
    }

    private static void promise18AlterAIs0To999() {
        alterFrom(5, 0, 999);
    }

    private static void promise18AlterBIs0To999() {
        alterFrom(6, 0, 999);
    }

    private static void promise18AlterCIs0To999() {
        alterFrom(7, 0, 999);
    }

    private static void promise18AlterKeyIs1To999() {
        alterFrom(8, 1, 999);
    }

    private static void promise18AlterMarkIs0To9972() {
        alterFrom(9, 0, 9972);
    }

    private static void promise18AlterOfAnotherThingIsBad() {
        GapProofs x = ofEachKind();
        for (int what : new int[] {-1, 0, 1, 2, 3, 10, 11, Integer.MIN_VALUE, Integer.MAX_VALUE}) due("alter(0, " + what + ", 1)", x.alter(0, what, 1), BAD);
    }

    private static void promise18AlterAtAndBehindTheLast() {
        GapProofs x = ofEachKind();
        due("alter(4, 4, 9)", x.alter(4, 4, 9), 2);
        due("alter(5, 4, 9)", x.alter(5, 4, 9), NONE);
        due("alter(far, 4, 9)", x.alter(Integer.MAX_VALUE, 4, 9), NONE);
        due("alter(0, 4, 9) of a PROOF without ITEMS", withoutItems().alter(0, 4, 9), NONE);
    }

    private static void promise18AlterBadIsAheadOfStateAndNone() {
        GapProofs[] all = {told(TEXT), ofEachKind(), withoutItems()};
        int[][] bad = {{-1, 4, 0}, {99, 3, 0}, {99, 10, 0}, {99, 4, 64}, {99, 5, 1000}, {99, 8, 0}, {99, 8, 1000}, {99, 9, 9973}, {99, 9, -1}};
        for (GapProofs x : all) for (int[] b : bad) due("alter(" + b[0] + ", " + b[1] + ", " + b[2] + ")", x.alter(b[0], b[1], b[2]), BAD);
        due("alter(0, 4, 0) without a PROOF", all[0].alter(0, 4, 0), STATE);
        due("alter(99, 4, 0) without a PROOF", all[0].alter(99, 4, 0), STATE);
    }

    private static void promise18AlterChangesThatThingAlone() {
        for (int what = 4; what <= 9; what++) {
            GapProofs x = ofEachKind(), y = ofEachKind();
            x.alter(3, what, 50);
            for (int i = 0; i < 5; i++)
                for (int w = 0; w < 10; w++) due("item(" + i + ", " + w + ")", x.item(i, w), i == 3 && w == what ? 50 : y.item(i, w));
        }
    }

    // ---- 19

    private static void promise19RenameOwnerToTheRootAndTo4Labels() {
        GapProofs x = ofEachKind();
        call(x, "zz.z.*.abc");
        for (int i = 0; i < 5; i++) {
            int had = x.item(i, 2);
            due("rename(" + i + ", 0)", x.rename(i, 0), had);
            due("item(" + i + ", 2)", x.item(i, 2), 4);
        }
        x.up(4);
        for (int i = 0; i < 5; i++) {
            due("rename(" + i + ", 0) to the ROOT", x.rename(i, 0), 4);
            due("item(" + i + ", 2)", x.item(i, 2), 0);
            due("rename(" + i + ", 0) again", x.rename(i, 0), 0);
        }
    }

    private static void promise19RenameNextOfALink() {
        GapProofs x = ofEachKind();
        call(x, "zz.z.*.abc");
        due("rename(4, 1)", x.rename(4, 1), 1);
        x.sign(4);
        linkIs(x, 4, 1, "b.a", "zz.z.*.abc", 2, 11);
        x.up(4);
        due("rename(4, 1) to the ROOT", x.rename(4, 1), 4);
        due("item(4, 3)", x.item(4, 3), 0);
        due("item(4, 2)", x.item(4, 2), 2);
    }

    private static void promise19RenameNextOfOneThatIsNoLinkIsNone() {
        GapProofs x = ofEachKind(), y = ofEachKind();
        call(x, "z");
        for (int i = 0; i < 4; i++) due("rename(" + i + ", 1)", x.rename(i, 1), NONE);
        for (int i = 0; i < 4; i++) due("CONTENT of item " + i, x.item(i, 10), y.item(i, 10));
    }

    private static void promise19RenameAtAndBehindTheLast() {
        GapProofs x = ofEachKind();
        for (int what = 0; what < 2; what++) {
            due("rename(5, " + what + ")", x.rename(5, what), NONE);
            due("rename(far, " + what + ")", x.rename(Integer.MAX_VALUE, what), NONE);
            due("rename(4, " + what + ")", x.rename(4, what), 2 - what);
            due("rename(0, " + what + ") of a PROOF without ITEMS", withoutItems().rename(0, what), NONE);
        }
    }

    private static void promise19RenameBadIsAheadOfStateAndNone() {
        GapProofs[] all = {told(TEXT), ofEachKind(), withoutItems()};
        int[][] bad = {{-1, 0}, {-1, 1}, {0, -1}, {0, 2}, {99, 2}, {99, -1}};
        for (GapProofs x : all) for (int[] b : bad) due("rename(" + b[0] + ", " + b[1] + ")", x.rename(b[0], b[1]), BAD);
        for (int far : FAR) due("rename(0, far)", all[1].rename(0, far), BAD);
        due("rename(0, 1) without a PROOF", all[0].rename(0, 1), STATE);
        due("rename(99, 0) without a PROOF", all[0].rename(99, 0), STATE);
    }

    private static void promise19RenameLeavesTheMarkAndTheName() {
        GapProofs x = ofEachKind();
        int mark = x.item(3, 9);
        call(x, "z.y");
        x.rename(3, 0);
        due("MARK", x.item(3, 9), mark);
        same("THE NAME", dotted(x), "z.y");
        x.up(1);
        due("the OWNER does not go with THE NAME", x.item(3, 2), 2);
    }

    // ---- 20

    private static void promise20SignAtAndBehindTheLast() {
        GapProofs x = ofEachKind();
        for (int i = 0; i < 5; i++) due("sign(" + i + ") of what is signed", x.sign(i), x.item(i, 9));
        due("sign(5)", x.sign(5), NONE);
        due("sign(far)", x.sign(Integer.MAX_VALUE), NONE);
        due("sign(0) of a PROOF without ITEMS", withoutItems().sign(0), NONE);
    }

    private static void promise20SignBadIsAheadOfStateAndNone() {
        due("sign(-1) without a PROOF", told(TEXT).sign(-1), BAD);
        due("sign(-1)", ofEachKind().sign(-1), BAD);
        due("sign(far)", ofEachKind().sign(Integer.MIN_VALUE), BAD);
        due("sign(-1) without ITEMS", withoutItems().sign(-1), BAD);
        due("sign(0) without a PROOF", told(TEXT).sign(0), STATE);
        due("sign(99) without a PROOF", told(TEXT).sign(99), STATE);
    }

    private static void promise20SignByTheLeastAndTheGreatestKey() {
        GapProofs x = ofEachKind();
        for (int key : new int[] {1, 999}) {
            x.alter(3, 8, key);
            x.alter(3, 9, 0);
            due("sign(3) by " + key, x.sign(3), (int) ((x.item(3, 10) * (2L * key + 1) + key) % 9973));
            recordIs(x, 3, 1, "*.a", 2, 99, key);
        }
    }

    private static void promise20SignTellsWhatIsAlteredAndRenamed() {
        GapProofs x = ofEachKind();
        x.alter(4, 4, 63);
        x.alter(4, 5, 999);
        x.alter(4, 6, 999);
        x.alter(4, 7, 999);
        x.alter(4, 8, 999);
        call(x, "zzz.zzz.zzz.zzz");
        x.rename(4, 0);
        x.rename(4, 1);
        x.sign(4);
        itemIs(x, 4, "zzz.zzz.zzz.zzz", "zzz.zzz.zzz.zzz", 3, 1, 63, 999, 999, 999, 999);
    }

    // ---- 21

    private static void promise21CheckWithoutAProofIsState() {
        GapProofs x = told(TEXT);
        due("at first", x.check(), STATE);
        ask(x, "b.a", 1);
        due("with one", x.check(), 0);
        x.keep(0);
        x.back(0);
        due("behind back()", x.check(), STATE);
        ask(x, "b.a", 1);
        due("with one again", x.check(), 0);
        x.text();
        due("ANEW", x.check(), STATE);
        due("of one without ITEMS", withoutItems().check(), -22);
    }

    private static void promise21CheckEachAnswer() {
        String[] names = {"b.a", "b.a", "q.a", "q.a", "q.b.a", "c.p"};
        int[] sorts = {1, 2, 2, 1, 1, 0};
        for (int n = 0; n < 6; n++) due("check() of " + names[n], asked(names[n], sorts[n]).check(), n);
        int[] lost = {1, 2, 3, 4}, broken = {-21, -22, -24, -23};
        for (int n = 0; n < 4; n++) {
            GapProofs x = ofEachKind();
            x.lose(lost[n]);
            due("check() without ITEM " + lost[n], x.check(), broken[n]);
        }
    }

    private static void promise21CheckLeavesTheProofAndTheName() {
        GapProofs x = ofEachKind();
        x.check();
        x.check();
        due("rule(4)", x.rule(4), 5);
        row("kinds", kinds(x), 1, 10, 11, 12, 13);
        same("THE NAME", dotted(x), "q.a");
        due("CLOCK", x.rule(2), 0);
    }

    // ---- 22

    private static void checkedIs(GapProofs x, String when, int value, int zone, int came) {
        row("checked() " + when, new int[] {x.checked(0), x.checked(1), x.checked(2)}, value, zone, came);
    }

    private static void promise22CheckedWithoutACheckIsState() {
        GapProofs x = new GapProofs();
        checkedIs(x, "at first", STATE, STATE, STATE);
        x.ask(0);
        checkedIs(x, "behind ask()", STATE, STATE, STATE);
        x = told(TEXT);
        due("check() that is refused", x.check(), STATE);
        checkedIs(x, "behind a check() that was refused", STATE, STATE, STATE);
    }

    private static void promise22CheckedBadIsAheadOfState() {
        GapProofs x = told(TEXT);
        for (int what : new int[] {-1, 3, Integer.MIN_VALUE, Integer.MAX_VALUE}) {
            due("checked(" + what + ") without one", x.checked(what), BAD);
            GapProofs y = ofEachKind();
            y.check();
            due("checked(" + what + ")", y.checked(what), BAD);
        }
    }

    private static void promise22CheckedBehindAnewIsState() {
        GapProofs x = ofEachKind();
        x.check();
        checkedIs(x, "of WILD", 99, 1, 3);
        tell(x, "zone .;");
        checkedIs(x, "behind a text with a FAULT", 99, 1, 3);
        tell(x, TEXT);
        checkedIs(x, "ANEW", STATE, STATE, STATE);
    }

    private static void promise22CheckedBehindBackIsState() {
        GapProofs x = ofEachKind();
        x.check();
        x.keep(0);
        checkedIs(x, "behind keep()", 99, 1, 3);
        due("back(1) that is refused", x.back(1), STATE);
        due("back(2) that is refused", x.back(2), BAD);
        checkedIs(x, "behind back() that was refused", 99, 1, 3);
        due("back(0)", x.back(0), 4);
        checkedIs(x, "behind back()", STATE, STATE, STATE);
        due("check() that is refused", x.check(), STATE);
        checkedIs(x, "behind a check() that was refused", STATE, STATE, STATE);
        ask(x, "q.a", 2);
        x.check();
        checkedIs(x, "of the next one", 99, 1, 0);
    }

    private static void promise22CheckedStaysTillTheNextCheck() {
        GapProofs x = ofEachKind();
        x.check();
        ask(x, "c.p", 0);
        x.lose(1);
        x.tick(50);
        checkedIs(x, "behind ask()", 99, 1, 3);
        due("check()", x.check(), -21);
        checkedIs(x, "of the next one", NONE, 2, 1);
    }

    private static void promise22CheckedValueIsNoneIfNotFoundOrWild() {
        String[] names = {"b.a", "b.a", "q.a", "q.a", "q.b.a", "c.p"};
        int[] sorts = {1, 2, 2, 1, 1, 0}, values = {0, NONE, 99, NONE, NONE, NONE}, zones = {1, 1, 1, 1, 1, 2}, came = {3, 3, 3, 3, 3, 1};
        for (int n = 0; n < 6; n++) {
            GapProofs x = asked(names[n], sorts[n]);
            x.check();
            checkedIs(x, "of " + names[n], values[n], zones[n], came[n]);
        }
        GapProofs x = asked("b.a", 1);
        x.check();
        x.alter(3, 9, 0);
        due("check() of what is altered", x.check(), -23);
        checkedIs(x, "of what is altered", NONE, 1, 0);
    }

    private static void promise22CheckedHowManyEntriesCame() {
        GapProofs x = told("zone a;zone b.a;zone c.b.a;rec d.c.b.a a 1;");
        x.ask(0);
        x.check();
        checkedIs(x, "of ZONE 0", NONE, 0, 1);
        x.check();
        checkedIs(x, "of ZONE 0 again", NONE, 0, 0);
        x.tick(10);
        ask(x, "d.c.b.a", 0);
        x.check();
        checkedIs(x, "of four ZONES, more than there is room for", 1, 3, 7);
    }

    // ---- 23

    private static void promise23EntryAtAndBehindTheLast() {
        GapProofs x = ofEachKind();
        due("entry(0, 0) of none", x.entry(0, 0), NONE);
        x.check();
        row("ENTRY 2", entryRow(x, 2), 1, 1, 11, 0, 0, 1, 10);
        for (int what = 0; what < 7; what++) {
            due("entry(3, " + what + ")", x.entry(3, what), NONE);
            due("entry(4, " + what + ")", x.entry(4, what), NONE);
            due("entry(far, " + what + ")", x.entry(Integer.MAX_VALUE, what), NONE);
        }
    }

    private static void promise23EntryBadIsAheadOfNone() {
        GapProofs x = ofEachKind();
        x.check();
        int[][] bad = {{-1, 0}, {Integer.MIN_VALUE, 0}, {0, -1}, {0, 7}, {3, 7}, {99, -1}};
        for (int[] b : bad) {
            due("entry(" + b[0] + ", " + b[1] + ")", x.entry(b[0], b[1]), BAD);
            due("entry(" + b[0] + ", " + b[1] + ") of none", told(TEXT).entry(b[0], b[1]), BAD);
        }
        for (int far : FAR) due("entry(0, far)", x.entry(0, far), BAD);
    }

    private static void promise23EntryHasUpTo3Keys() {
        GapProofs x = told(TEXT);
        x.publish(1, 999);
        x.publish(1, 1);
        x.digest(1, 12);
        askAndCheck(x, "b.a", 1);
        row("ENTRY 0", entryRow(x, 0), 0, 1, 10, 0, 0, 1, 10);
        row("ENTRY 1", entryRow(x, 1), 1, 0, 11, 12, 0, 1, 10);
        row("ENTRY 2", entryRow(x, 2), 1, 1, 1, 11, 999, 1, 10);
    }

    private static void promise23EntryEndsInHowManyMinutes() {
        GapProofs x = told("span 3;");
        x.ask(0);
        x.check();
        int[] ends = {3, 2, 1, 0, 0};
        for (int clock = 0; clock < 5; clock++) {
            due("entry(0, 5) at " + clock, x.entry(0, 5), ends[clock] > 0 ? 1 : 0);
            due("entry(0, 6) at " + clock, x.entry(0, 6), ends[clock]);
            x.tick(1);
        }
        x.tick(1000000000);
        row("ENTRY 0 long behind", entryRow(x, 0), 0, 1, 10, 0, 0, 0, 0);
    }

    private static void promise23EntryStaysThoughKeysChange() {
        GapProofs x = ofEachKind();
        x.check();
        x.publish(1, 20);
        x.activate(1, 20);
        x.retire(1, 11);
        x.undigest(1, 11);
        x.digest(0, 20);
        row("ENTRY 1", entryRow(x, 1), 1, 0, 11, 0, 0, 1, 10);
        row("ENTRY 2", entryRow(x, 2), 1, 1, 11, 0, 0, 1, 10);
        x.alter(2, 5, 77);
        while (x.rule(4) > 0) x.lose(0);
        row("ENTRY 2 whatever ITEMS are", entryRow(x, 2), 1, 1, 11, 0, 0, 1, 10);
    }
}
