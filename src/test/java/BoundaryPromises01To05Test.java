/** The boundary cases of promises 1 to 5: a new object, THE TAPE, the text and its FAULT. */
public final class BoundaryPromises01To05Test extends Bench {
    public static void main(String[] args) {
        finish("boundaries of promises 1 to 5: " + runAll(BoundaryPromises01To05Test.class) + " tests");
    }

    private static GapProofs fed(String s) {
        GapProofs x = new GapProofs();
        write(x, s);
        return x;
    }

    private static GapProofs fullTape(int last) {
        GapProofs x = fed("rec a a 7;");
        for (int i = 11; i < 200; i++) x.feed(' ');
        due("the 200th", x.feed(last), 200);
        return x;
    }

    // ---- 1

    private static void promise01NewObjectHasZone0Alone() {
        GapProofs x = new GapProofs();
        due("rule(0)", x.rule(0), 1);
        due("zone(0, 0)", x.zone(0, 0), 1);
        due("zone(1, 0)", x.zone(1, 0), BAD);
        due("owner(1, 0)", x.owner(1, 0), BAD);
        due("key(1, 0, 0)", x.key(1, 0, 0), BAD);
        due("publish(1, 20)", x.publish(1, 20), BAD);
        same("OWNERS", ownersOf(x, 0), ".");
    }

    private static void promise01NewObjectIsAnew() {
        GapProofs x = new GapProofs();
        row("rule", rules(x), 1, 0, 0, 10, NONE, 0, 0, 0, 0);
        row("KEYS", with(keyRow(x, 0, 0), keyRow(x, 0, 2)), 10, 0);
        row("TRUST", with(keyRow(x, 0, 1), keyRow(x, 0, 3)), 10, 0);
        due("the ACTIVE KEY", x.zone(0, 7), 10);
        due("LABELS of THE NAME", x.name(0), 0);
        due("fault()", x.fault(), 0);
        due("lose(0)", x.lose(0), STATE);
        due("check()", x.check(), STATE);
        due("checked(0)", x.checked(0), STATE);
        due("entry(0, 0)", x.entry(0, 0), NONE);
        due("back(0)", x.back(0), STATE);
        due("back(1)", x.back(1), STATE);
    }

    private static void promise01NewObjectIsApartFromOthers() {
        GapProofs x = new GapProofs(), y = told("zone a;span 3;");
        y.feed('z');
        y.tick(5);
        y.publish(0, 20);
        y.digest(0, 20);
        y.label(1, 0, 0);
        y.put(0, 1);
        y.ask(0);
        y.check();
        y.keep(0);
        tell(y, "?");
        row("all that can be read at once", atOnce(x), atOnce(new GapProofs()));
        row("of one that is made then", atOnce(new GapProofs()), atOnce(x));
    }

    // ---- 2

    private static void promise02FeedTakesEachByteFrom0To127() {
        GapProofs x = new GapProofs();
        for (int c = 0; c <= 127; c++) due("feed(" + c + ")", x.feed(c), c + 1);
        due("rule(7)", x.rule(7), 128);
    }

    private static void promise02FeedBelow0IsBad() {
        GapProofs x = fed("ab");
        for (int c : new int[] {-1, -2, -128, -159, -256, Integer.MIN_VALUE}) due("feed(" + c + ")", x.feed(c), BAD);
        due("rule(7)", x.rule(7), 2);
    }

    private static void promise02FeedAbove127IsBad() {
        GapProofs x = fed("ab");
        for (int c : new int[] {128, 129, 255, 256, 256 + 'a', 65536 + 'a', Integer.MAX_VALUE}) due("feed(" + c + ")", x.feed(c), BAD);
        due("rule(7)", x.rule(7), 2);
    }

    private static void promise02FeedThe200thIsTakenThe201stIsFull() {
        GapProofs x = new GapProofs();
        for (int n = 1; n <= 200; n++) due("the " + n + ". byte", x.feed(' '), n);
        due("the 201st", x.feed(' '), FULL);
        due("the 202nd", x.feed(0), FULL);
        due("rule(7)", x.rule(7), 200);
        due("text()", x.text(), 0);
    }

    private static void promise02FeedTheRefusedOneDoesNotStandForAnother() {
        GapProofs x = fullTape(' ');
        due("the 201st", x.feed('?'), FULL);
        due("text()", x.text(), 1);
        x = fullTape('?');
        due("the 201st", x.feed(' '), FULL);
        due("text()", x.text(), -209);
        due("fault()", x.fault(), 1);
    }

    private static void promise02FeedBadIsAheadOfFull() {
        GapProofs x = fullTape(' ');
        due("feed(-1)", x.feed(-1), BAD);
        due("feed(128)", x.feed(128), BAD);
        due("feed(127)", x.feed(127), FULL);
    }

    private static void promise02FeedHasRoomAgainBehindEndAndText() {
        GapProofs x = fullTape(' ');
        due("end(199)", x.end(199), 200);
        due("feed", x.feed(' '), 200);
        due("feed", x.feed(' '), FULL);
        due("text()", x.text(), 1);
        due("feed behind text()", x.feed('?'), 1);
        due("text() with a FAULT", x.text(), -10);
        due("feed behind a FAULT", x.feed(' '), 1);
    }

    // ---- 3

    private static void promise03EndOfAnEmptyTape() {
        GapProofs x = new GapProofs();
        due("end(0)", x.end(0), 0);
        due("end(1)", x.end(1), BAD);
        due("end(-1)", x.end(-1), BAD);
        due("rule(7)", x.rule(7), 0);
    }

    private static void promise03EndBelow0AndAboveWhatItHasIsBad() {
        GapProofs x = fed("span 5;");
        for (int n : new int[] {-1, Integer.MIN_VALUE, 8, 200, 201, Integer.MAX_VALUE}) due("end(" + n + ")", x.end(n), BAD);
        due("rule(7)", x.rule(7), 7);
        due("text()", x.text(), 1);
        due("SPAN", x.rule(3), 5);
    }

    private static void promise03EndOfAllThatItHasKeepsAll() {
        GapProofs x = fed("span 5;");
        due("end(7)", x.end(7), 7);
        due("end(7) again", x.end(7), 7);
        due("text()", x.text(), 1);
        x = fullTape(' ');
        due("end(200)", x.end(200), 200);
        due("rule(7)", x.rule(7), 200);
    }

    private static void promise03EndOf0KeepsNone() {
        GapProofs x = fullTape('?');
        due("end(0)", x.end(0), 200);
        due("rule(7)", x.rule(7), 0);
        due("end(0) again", x.end(0), 0);
        due("text()", x.text(), 0);
    }

    private static void promise03EndKeepsTheFirstBytes() {
        GapProofs x = fed("span 51;zone a;");
        due("end(6)", x.end(6), 15);
        due("what was cut off is gone", x.end(7), BAD);
        due("feed", x.feed(';'), 7);
        due("text()", x.text(), 1);
        due("SPAN", x.rule(3), 5);
        due("rule(0)", x.rule(0), 1);
    }

    // ---- 4

    private static void promise04TextAnswersHowManyLines() {
        due("none", fed("").text(), 0);
        due("blanks alone", fed("   ").text(), 0);
        due("one", fed("span 5;").text(), 1);
        due("two", fed("span 5;zone a;").text(), 2);
        due("of each sort", fed("zone a;plain b;rec c a 1;span 5;").text(), 4);
    }

    private static void promise04TextEmptiesTheTape() {
        GapProofs x = fed("span 5;");
        due("text()", x.text(), 1);
        due("rule(7)", x.rule(7), 0);
        due("end(1)", x.end(1), BAD);
        due("text() of none", x.text(), 0);
        due("SPAN anew", x.rule(3), 10);
    }

    private static void promise04TextByAFaultEmptiesTheTapeToo() {
        String[] faulty = {"?", "zone", "span 61;", "span 5;span 5;", "zone .;"};
        for (int n = 0; n < 5; n++) {
            GapProofs x = fed(faulty[n]);
            due("whether there is a FAULT", x.text() < 0 ? 1 : 0, 1);
            due("fault()", x.fault(), n + 1);
            due("rule(7)", x.rule(7), 0);
            due("feed", x.feed(' '), 1);
        }
    }

    private static void promise04TextAnswers10LessThePlaceOfItsFault() {
        due("place 0", fed("?").text(), -10);
        due("place 1", fed(" ?").text(), -11);
        due("the end of one line", fed("zone a").text(), -16);
        GapProofs x = fullTape('?');
        due("place 199", x.text(), -209);
        x = fullTape('z');
        due("a WORD at place 199", x.text(), -209);
        x = new GapProofs();
        write(x, "span" + " ".repeat(196));
        due("the end of 200 bytes", x.text(), -210);
        due("fault()", x.fault(), 2);
    }

    private static void promise04TextWithAFaultLeavesWhatWasTold() {
        GapProofs x = told("zone a;rec b.a t 5;span 7;");
        due("text()", tell(x, "plain c;rec d a 1;span 9;zone c;"), -41);
        row("rule", rules(x), 2, 1, 0, 7, NONE, 0, 0, 0, 0);
        due("zone(1, 0)", x.zone(1, 0), 1);
        answerIs(x, "b.a", 1, 0, 5);
        answerIs(x, "d", 0, 4, NONE);
        // THE TAPE is empty by it: the next text() is one that tells nothing, and is taken.
        due("text() again", x.text(), 0);
        row("rule", rules(x), 1, 0, 0, 10, NONE, 0, 0, 0, 0);
    }

    private static void promise04TextTellsNothingOfAnEarlierOneWithAFault() {
        GapProofs x = new GapProofs();
        due("text() with a FAULT", tell(x, "zone a;zone b;zone c;rec d a 1;span 5;?"), -48);
        due("text() with as many", tell(x, "zone a;plain b;zone c.a;rec d a 2;span 6;"), 5);
        row("rule", rules(x), 4, 1, 0, 6, NONE, 0, 0, 0, 0);
        row("PARENTS", new int[] {x.zone(1, 1), x.zone(2, 1), x.zone(3, 1)}, 0, 0, 1);
        answerIs(x, "d", 0, 0, 2);
    }

    // ---- 5

    private static void promise05FaultAheadOfAnyTextIs0() {
        due("fault()", new GapProofs().fault(), 0);
        due("fault() with a TAPE that has one", fed("?").fault(), 0);
    }

    private static void promise05FaultBehindATextWithOne() {
        String[] faulty = {"?", "zone", "span 61;", "span 5;span 5;", "zone .;"};
        GapProofs x = new GapProofs();
        for (int n = 0; n < 5; n++) {
            tell(x, faulty[n]);
            due("fault() of " + faulty[n], x.fault(), n + 1);
            due("fault() again", x.fault(), n + 1);
        }
    }

    private static void promise05FaultBehindATextWithoutOneIs0() {
        GapProofs x = new GapProofs();
        tell(x, "?");
        due("fault()", x.fault(), 1);
        due("text()", tell(x, "span 5;"), 1);
        due("fault()", x.fault(), 0);
        tell(x, "span 0;");
        due("fault()", x.fault(), 3);
        due("text() of none", x.text(), 0);
        due("fault()", x.fault(), 0);
    }

    private static void promise05FaultStaysTillTheNextText() {
        GapProofs x = told("zone a;rec b.a t 5;");
        tell(x, "span 0;");
        write(x, "zone ?");
        x.end(5);
        x.feed(128);
        x.label(1, 0, 0);
        x.put(0, 1);
        x.ask(0);
        x.check();
        x.tick(3);
        x.keep(0);
        x.back(0);
        x.back(1);
        due("fault()", x.fault(), 3);
        due("text()", x.text(), -15);
        due("fault()", x.fault(), 2);
    }
}
