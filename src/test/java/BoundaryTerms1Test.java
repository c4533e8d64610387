/** The boundary cases of part 1 of the Terms: names, zones, records, owners, the text and its faults. */
public final class BoundaryTerms1Test extends Bench {
    public static void main(String[] args) {
        finish("boundaries of the Terms, part 1: " + runAll(BoundaryTerms1Test.class) + " tests");
    }

    private static void ownersAre(String text, int z, String want) {
        same("OWNERS of ZONE " + z + " of " + text, ownersOf(told(text), z), want);
    }

    private static void liesIn(GapProofs x, String dotted, int z) {
        call(x, dotted);
        due("the ZONE IN which " + dotted + " lies", x.name(1), z);
    }

    private static void exists(GapProofs x, String dotted, int whether) {
        call(x, dotted);
        due("whether " + dotted + " EXISTS", x.name(2), whether);
    }

    private static String blanks(int n) {
        return " ".repeat(n);
    }

    // ---- names

    private static void terms1NameOfNoLabelIsTheRoot() {
        GapProofs x = told("rec . a 5;");
        row("name of the ROOT", nameRow(x, "."), 0, 0, 1, 33, 0, 0, 0);
        due("letter(0, 0) of the ROOT", x.letter(0, 0), BAD);
        answerIs(x, ".", 0, 0, 5);
        answerIs(x, ".", 1, 1, NONE);
        answerIs(x, "a", 0, 4, NONE);
    }

    private static void terms1NameHas4LabelsAtMost() {
        GapProofs x = told("rec d.c.b.a a 5;rec *.*.*.* t 6;rec abc.def.ghi.xyz m 7;");
        same("OWNERS", ownersOf(x, 0), ". *.*.*.* d.c.b.a abc.def.ghi.xyz");
        answerIs(x, "d.c.b.a", 0, 0, 5);
        answerIs(x, "*.*.*.*", 1, 0, 6);
        answerIs(x, "abc.def.ghi.xyz", 2, 0, 7);
        due("a fifth LABEL", x.label(1, 0, 0), FULL);
        answerIs(x, "abc.def.ghi.xyz", 2, 0, 7);
        faultOf("rec e.d.c.b.a a 5;", 3, 12);
    }

    private static void terms1Label0IsNearestTheRoot() {
        GapProofs x = told("rec a.b.cd a 1;");
        due("LABELS of the OWNER", x.owner(0, 1), 3);
        row("its letters", letters(x), 3, 3, 4, 0, 2, 0, 0, 1, 0, 0);
        call(x, "cd");
        exists(x, "cd", 1);
        exists(x, "a", 0);
    }

    private static void terms1LabelIsOf1To3Letters() {
        ownersAre("rec zzz a 1;rec z a 1;rec abc a 1;rec ab a 1;rec a a 1;", 0, ". a ab abc z zzz");
        faultOf("rec abcd a 1;", 3, 4);
        faultOf("rec a.abcd.b a 1;", 3, 6);
    }

    private static void terms1LabelMayBeTheStar() {
        ownersAre("rec * a 1;rec *.a a 1;rec b.* a 1;rec *.* a 1;", 0, ". * *.* b.* *.a");
        faultOf("rec ** a 1;", 2, 5);
        faultOf("rec a* a 1;", 2, 5);
        faultOf("rec *a a 1;", 2, 7);
    }

    private static void terms1AboveIsEachOfTheFirstLabelsAndFewer() {
        GapProofs x = told("rec c.b.a a 1;rec d.ef t 1;");
        exists(x, ".", 1);
        exists(x, "a", 1);
        exists(x, "b.a", 1);
        exists(x, "c.b.a", 1);
        exists(x, "d.c.b.a", 0);
        exists(x, "b", 0);
        exists(x, "c", 0);
        exists(x, "c.a", 0);
        // The first letters of a LABEL are not a LABEL of their own.
        exists(x, "e", 0);
        exists(x, "ef", 1);
        exists(x, "efg", 0);
    }

    private static void terms1OrderStarIsFirst() {
        ownersAre("rec a a 1;rec * a 1;rec aa a 1;", 0, ". * a aa");
        ownersAre("rec a.q a 1;rec *.q a 1;rec aaa.q a 1;", 0, ". *.q a.q aaa.q");
    }

    private static void terms1OrderIsByLetters() {
        ownersAre("rec b a 1;rec az a 1;rec ac a 1;rec abz a 1;rec z a 1;rec zzz a 1;", 0, ". abz ac az b z zzz");
    }

    private static void terms1OrderOneThatEndsFirstIsFirst() {
        ownersAre("rec aab a 1;rec ab a 1;rec aaa a 1;rec aa a 1;rec a a 1;", 0, ". a aa aaa aab ab");
    }

    private static void terms1OrderIsByTheFirstLabelsThatAreUnlike() {
        ownersAre("rec a.b a 1;rec a.aa a 1;rec z.z.a a 1;rec z.a a 1;rec a.z.a a 1;", 0, ". z.a a.z.a z.z.a a.aa a.b");
    }

    private static void terms1OrderNameAboveIsAhead() {
        ownersAre("rec b a 1;rec b.a a 1;rec *.*.a a 1;rec *.a a 1;rec a a 1;", 0, ". a *.a *.*.a b.a b");
        ownersAre("rec zzz.zzz.zzz.a a 1;rec aa a 1;rec zzz.zzz.a a 1;", 0, ". zzz.zzz.a zzz.zzz.zzz.a aa");
    }

    // ---- zones, records

    private static void terms1Zone0IsTheRootsAndSigned() {
        row("ZONE 0 of a new object", zoneRow(new GapProofs(), 0), 1, NONE, 0, 1, 0, 1, 1, 10);
        row("ZONE 0 beside a PLAIN one", zoneRow(told("plain a;"), 0), 1, NONE, 0, 2, 0, 1, 1, 10);
        faultOf("zone .;", 5, 6);
        faultOf("plain .;", 5, 7);
    }

    private static void terms1ZonesAre0To3() {
        GapProofs x = told("zone a;zone b;plain c;");
        due("rule(0)", x.rule(0), 4);
        row("ZONE 3", zoneRow(x, 3), 0, 0, 1, 1, 0, 0, 0, NONE);
        row("ZONE 2", zoneRow(x, 2), 1, 0, 1, 1, 0, 1, 1, 12);
        due("zone(4, 0)", x.zone(4, 0), BAD);
        x = told("plain a;plain b;zone c;");
        due("zone(3, 7)", x.zone(3, 7), 13);
    }

    private static void terms1ApexMayHave4LabelsOrAStar() {
        GapProofs x = told("zone d.c.b.a;zone *;plain *.d;rec d.c.b.a a 1;rec x.* t 2;");
        due("LABELS of the APEX of ZONE 1", x.zone(1, 2), 4);
        due("LABELS of the APEX of ZONE 3", x.zone(3, 2), 2);
        liesIn(x, "d.c.b.a", 1);
        liesIn(x, "c.b.a", 0);
        liesIn(x, "*", 2);
        liesIn(x, "x.*", 2);
        liesIn(x, "x", 0);
        liesIn(x, "*.d", 3);
        liesIn(x, "x.d", 0);
        same("OWNERS of ZONE 0", ownersOf(x, 0), ". * d.c.b.a *.d");
        same("OWNERS of ZONE 1", ownersOf(x, 1), "d.c.b.a");
        same("OWNERS of ZONE 2", ownersOf(x, 2), "* x.*");
    }

    private static void terms1NameLiesInTheZoneOfMostLabels() {
        GapProofs x = told("zone a;zone c.b.a;zone ef;");
        liesIn(x, ".", 0);
        liesIn(x, "a", 1);
        liesIn(x, "b.a", 1);
        liesIn(x, "c.b.a", 2);
        liesIn(x, "d.c.b.a", 2);
        liesIn(x, "d.b.a", 1);
        liesIn(x, "b", 0);
        liesIn(x, "c.b", 0);
        liesIn(x, "a.b", 0);
        liesIn(x, "e", 0);
        liesIn(x, "ef", 3);
        liesIn(x, "efg", 0);
        liesIn(x, "e.ef", 3);
        liesIn(x, "ef.e", 0);
    }

    private static void parentsAre(String text, int p1, int p2, int p3) {
        GapProofs x = told(text);
        row("PARENTS of " + text, new int[] {x.zone(0, 1), x.zone(1, 1), x.zone(2, 1), x.zone(3, 1)}, NONE, p1, p2, p3);
    }

    private static void terms1ParentIsThatInWhichTheApexLessItsLastLabelLies() {
        parentsAre("zone a;zone b.a;zone c.b.a;", 0, 1, 2);
        parentsAre("zone c.b.a;zone b.a;zone a;", 2, 3, 0);
        parentsAre("zone c.b.a;zone a;plain b.a;", 3, 0, 2);
        parentsAre("zone a;plain b;zone b.a;", 0, 0, 1);
        parentsAre("zone a;zone d.c.b.a;zone d.c.b;", 0, 1, 0);
        parentsAre("zone *;zone a.*;zone *.a;", 0, 1, 0);
        parentsAre("zone a;zone a.a;zone a.aa;", 0, 1, 0);
    }

    private static void terms1RecordsAre24AtMost() {
        GapProofs x = new GapProofs();
        for (int n = 1; n <= 24; n++) {
            x.up(x.name(0));
            x.label(n, 0, 0);
            due("put, the " + n + ". one", x.put(n % 3, n), NONE);
        }
        due("rule(1)", x.rule(1), 24);
        due("OWNERS", x.zone(0, 3), 25);
        due("LABELS of the last OWNER", x.owner(0, 24), 1);
        due("its letter", x.letter(0, 0), 24);
        due("its VALUE", x.answer(0, 1), 24);
        due("the 25th, of a NAME that is there", x.put(1, 1), FULL);
        x.label(1, 0, 0);
        due("the 25th, of a new NAME", x.put(0, 1), FULL);
    }

    /** The shortest lines are of 7 bytes (the ROOT, the STAR) and of 9: 23 of them have 195 bytes, 24 do not fit. */
    private static void terms1RecordsByTextAre23OnOneTape() {
        StringBuilder s = new StringBuilder();
        for (char sort : "atm".toCharArray()) s.append("rec.").append(sort).append("1;rec*").append(sort).append("2;");
        for (int n = 0; n < 17; n++) s.append("rec ").append((char) ('a' + n)).append(" a3;");
        due("how long it is", s.length(), 195);
        GapProofs x = told(s.toString());
        due("rule(1)", x.rule(1), 23);
        due("OWNERS", x.zone(0, 3), 19);
        call(x, "z");
        due("the 24th by hand", x.put(1, 1), NONE);
        due("the 25th by hand", x.put(0, 1), FULL);
        faultOf(s + "rec a", 2, 200);
    }

    private static void terms1OfOneNameAndSortThereIsOneRecord() {
        GapProofs x = told("rec a a 1;rec a t 2;rec a m 3;");
        call(x, "a");
        due("put(1, 9)", x.put(1, 9), 2);
        due("rule(1)", x.rule(1), 3);
        due("remove(1)", x.remove(1), 9);
        due("remove(1) again", x.remove(1), NONE);
        faultOf("rec a a 1;rec a t 2;rec a a 1;", 5, 29);
    }

    private static void terms1ValueIs0To99() {
        GapProofs x = told("rec . a 0;rec . t 99;rec . m 00;");
        answerIs(x, ".", 0, 0, 0);
        answerIs(x, ".", 1, 0, 99);
        answerIs(x, ".", 2, 0, 0);
    }

    // ---- owners

    private static void terms1OwnersAreTheApexTheRecordsInItAndTheApexesBelow() {
        String text = "zone a;zone b.a;plain d;rec c.a a 1;rec d.b.a a 1;rec a t 1;rec b.a t 2;rec e.d m 3;";
        ownersAre(text, 0, ". a d");
        ownersAre(text, 1, "a b.a c.a");
        ownersAre(text, 2, "b.a d.b.a");
        ownersAre(text, 3, "d e.d");
    }

    private static void terms1OwnerOfAZoneWithoutRecordsIsItsApex() {
        same("OWNERS of a new object", ownersOf(new GapProofs(), 0), ".");
        ownersAre("zone d.c.b.a;", 1, "d.c.b.a");
        ownersAre("plain *;", 1, "*");
    }

    private static void terms1OwnerOfThreeRecordsIsOne() {
        GapProofs x = told("rec a a 1;rec a t 2;rec a m 3;rec . a 1;");
        same("OWNERS", ownersOf(x, 0), ". a");
        row("a", nameRow(x, "a"), 1, 0, 1, 7, 1, 1, 1);
    }

    private static void terms1SortsTellRecordsThatLieInTheZoneAndZonesBelow() {
        GapProofs x = told("zone b;plain c;rec . a 1;rec . t 1;rec . m 1;rec a t 1;rec b a 1;rec c m 2;");
        row("the ROOT", nameRow(x, "."), 0, 0, 1, 39, 0, 0, 0);
        row("a", nameRow(x, "a"), 1, 0, 1, 2, 1, 1, 1);
        row("b in its own ZONE", nameRow(x, "b"), 1, 1, 1, 33, 0, 0, 1);
        row("c in its own ZONE", nameRow(x, "c"), 1, 2, 1, 36, 0, 0, 1);
        // In ZONE 0 they are APEXES of a SIGNED and of a PLAIN ZONE, and their RECORDS do not lie there.
        ask(x, "bb", 0);
        linkIs(x, 1, 0, "b", "c", 24, 10);
        ask(x, "cc", 0);
        linkIs(x, 1, 0, "c", ".", 8, 10);
    }

    private static void terms1NextOfTheLastOwnerIsTheApex() {
        GapProofs x = told("zone a;rec b.a a 1;rec c.a t 1;");
        due("ask(0) of z.a", ask(x, "z.a", 0), 5);
        linkIs(x, 3, 1, "c.a", "a", 2, 11);
        linkIs(x, 4, 1, "a", "b.a", 32, 11);
        due("ask(0) of z", ask(x, "z", 0), 3);
        linkIs(x, 1, 0, "a", ".", 24, 10);
        linkIs(x, 2, 0, ".", "a", 32, 10);
    }

    private static void terms1NextOfTheOnlyOwnerIsItself() {
        GapProofs x = told("zone a;");
        due("ask(0) of b.a", ask(x, "b.a", 0), 4);
        linkIs(x, 3, 1, "a", "a", 32, 11);
        x = new GapProofs();
        due("ask(0) of a", ask(x, "a", 0), 2);
        linkIs(x, 1, 0, ".", ".", 32, 10);
    }

    private static void terms1NextMayBeTheApexOfAZoneBelow() {
        GapProofs x = told("zone b;rec a a 1;rec c a 1;rec x.b a 1;");
        ask(x, "aa", 0);
        linkIs(x, 1, 0, "a", "b", 1, 10);
        ask(x, "bb", 0);
        linkIs(x, 1, 0, "b", "c", 24, 10);
    }

    private static void terms1ExistsWhatIsAboveAnOwner() {
        GapProofs x = told("zone c.b.a;rec f.e.d a 1;");
        row("b.a, ABOVE the APEX of a ZONE below", nameRow(x, "b.a"), 2, 0, 1, 0, NONE, 1, 2);
        row("a, likewise", nameRow(x, "a"), 1, 0, 1, 0, NONE, 1, 1);
        row("e.d, ABOVE a RECORD", nameRow(x, "e.d"), 2, 0, 1, 0, NONE, 2, 2);
        row("d.b.a", nameRow(x, "d.b.a"), 3, 0, 0, 0, NONE, 2, 2);
        call(x, "f.e.d");
        x.remove(0);
        exists(x, "f.e.d", 0);
        exists(x, "e.d", 0);
        exists(x, "d", 0);
        exists(x, ".", 1);
    }

    // ---- the text

    private static void terms1EmptyTextIsTaken() {
        GapProofs x = told("zone a;rec b.a a 1;span 5;");
        due("text()", x.text(), 0);
        due("fault()", x.fault(), 0);
        row("rule", rules(x), 1, 0, 0, 10, NONE, 0, 0, 0, 0);
        due("200 blanks", tell(x, blanks(200)), 0);
        due("fault()", x.fault(), 0);
    }

    private static void terms1TapeHas200BytesPlacesFrom0() {
        GapProofs x = told(blanks(193) + "span 7;");
        due("SPAN by the last of 200 bytes", x.rule(3), 7);
        faultOf("?" + blanks(199), 1, 0);
        faultOf(blanks(199) + "?", 1, 199);
        faultOf(blanks(199) + ";", 2, 199);
        faultOf(blanks(196) + "span", 2, 200);
        faultOf("span" + blanks(196), 2, 200);
        faultOf(blanks(195) + "abcde", 2, 195);
        faultOf(blanks(197) + "100", 1, 197);
        faultOf(blanks(193) + "zone .;", 5, 199);
        // The 201st byte does not come on THE TAPE: the line would lack nothing else.
        x = new GapProofs();
        write(x, blanks(194) + "span 7;");
        due("text() without the 201st byte", x.text(), -210);
    }

    private static void terms1TokensAreAsLongAsMayBe() {
        faultOf("zonea;", 2, 0);
        faultOf("recaa1;", 2, 0);
        faultOf("rec aa 1;", 2, 7);
        faultOf("rec a a1 2;", 2, 9);
        faultOf("rec a a 123;", 1, 8);
        GapProofs x = told("rec a a12;");
        answerIs(x, "a", 0, 0, 12);
    }

    private static void terms1BlanksAheadOfBetweenAndBehindTokens() {
        GapProofs x = told("   zone   b   .   a   ;   rec   .   a   1   ;   rec * t 2 ;span   7  ;   ");
        row("rule", rules(x), 2, 2, 0, 7, NONE, 0, 0, 0, 0);
        same("OWNERS of ZONE 1", ownersOf(x, 1), "b.a");
        answerIs(x, ".", 0, 0, 1);
    }

    private static void terms1NoBlankIsNeededButBetweenTwoWordsAndTwoNumbers() {
        GapProofs x = told("zone*;plain*.a;rec.a1;rec*.*t2;rec b m3;span5;rec c.d a4;");
        row("rule", rules(x), 3, 4, 0, 5, NONE, 0, 0, 0, 0);
        answerIs(x, "*.*", 1, 0, 2);
        answerIs(x, "b", 2, 0, 3);
        answerIs(x, "c.d", 0, 0, 4);
        faultOf("reca a1;", 2, 0);
        faultOf("rec aa1;", 2, 6);
        faultOf("span5 5;", 2, 6);
        faultOf("span55;span6;", 4, 7);
    }

    private static void terms1NumbersHave1Or2Figures() {
        GapProofs x = told("rec a a 5;rec b a 05;rec c a 50;rec d a 0;rec e a 00;rec f a 99;span 09;");
        int[] values = {5, 5, 50, 0, 0, 99};
        for (int n = 0; n < 6; n++) answerIs(x, "" + (char) ('a' + n), 0, 0, values[n]);
        due("SPAN", x.rule(3), 9);
    }

    private static void terms1NumberOf3FiguresIsNoTokenAtItsFirstByte() {
        faultOf("span 001;", 1, 5);
        faultOf("span 100;", 1, 5);
        faultOf("rec a a  000;", 1, 9);
        faultOf("rec a a1234567890123;", 1, 7);
        // Where no NUMBER can stand, too: it is no TOKEN.
        faultOf("100", 1, 0);
        faultOf("zone 100;", 1, 5);
        faultOf("zone a 100;", 1, 7);
        faultOf("rec a 100;", 1, 6);
        faultOf("rec a a 10 100;", 1, 11);
    }

    private static void terms1NameIsWrittenWithLabel0Last() {
        GapProofs x = told("zone b.a;rec cd.b.a a 1;rec *.x m 2;");
        due("LABELS of OWNER 1 of ZONE 1", x.owner(1, 1), 3);
        row("its letters", letters(x), 3, 1, 0, 0, 2, 0, 0, 3, 4, 0);
        x.owner(0, 2);
        row("letters of OWNER 2 of ZONE 0", letters(x), 2, 24, 0, 0, 27, 0, 0);
    }

    private static void terms1DotAloneIsTheRoot() {
        GapProofs x = told("rec . a 1;rec.t2;rec .m 3;");
        row("the ROOT", nameRow(x, "."), 0, 0, 1, 39, 0, 0, 0);
        faultOf("rec .a a 1;", 2, 7);
        faultOf("rec a. a 1;", 2, 9);
        faultOf("rec .. a 1;", 2, 5);
        faultOf("rec .* a 1;", 2, 5);
    }

    private static void terms1SortsAreWrittenATM() {
        GapProofs x = told("rec x a 1;rec x t 2;rec x m 3;");
        for (int sort = 0; sort < 3; sort++) answerIs(x, "x", sort, 0, sort + 1);
    }

    private static void terms1SpanIs1To60AndNotTold10() {
        due("not told", told("zone a;").rule(3), 10);
        due("span 1", told("span 1;").rule(3), 1);
        due("span 60", told("span 60;").rule(3), 60);
        faultOf("span 0;", 3, 5);
        faultOf("span 00;", 3, 5);
        faultOf("span 61;", 3, 5);
        faultOf("span 99;", 3, 5);
        GapProofs x = told("span 60;");
        due("one that does not tell it", tell(x, "zone a;"), 1);
        due("SPAN then", x.rule(3), 10);
        due("a FAULT behind it", tell(x, "span 5;?"), -17);
        due("SPAN stays", x.rule(3), 10);
    }

    private static void terms1LinesMayComeInAnyOrder() {
        GapProofs x = told("rec b.a a 1;span 5;rec a t 2;zone a;");
        due("RECORDS IN ZONE 1", x.zone(1, 4), 2);
        due("SPAN", x.rule(3), 5);
    }

    // ---- faults

    private static void terms1Fault1EachByteThatIsNoToken() {
        for (int c = 0; c < 128; c++) {
            GapProofs x = new GapProofs();
            x.feed(c);
            boolean token = c >= 'a' && c <= 'z' || c >= '0' && c <= '9' || c == '.' || c == '*' || c == ';';
            due("text() of byte " + c, x.text(), c == 32 ? 0 : -10);
            due("fault() of byte " + c, x.fault(), c == 32 ? 0 : token ? 2 : 1);
        }
    }

    private static void terms1Fault1NoTokenAtEachPlaceOfALine() {
        faultOf("?", 1, 0);
        faultOf("zone?", 1, 4);
        faultOf("zone .?", 1, 6);
        faultOf("zone a?", 1, 6);
        faultOf("zone a.?", 1, 7);
        faultOf("zone a.b?", 1, 8);
        faultOf("zone d.c.b.a?", 1, 12);
        faultOf("zone d.c.b.a.?", 1, 13);
        faultOf("plain ?", 1, 6);
        faultOf("rec ?", 1, 4);
        faultOf("rec a ?", 1, 6);
        faultOf("rec a a?", 1, 7);
        faultOf("rec a a 1?", 1, 9);
        faultOf("rec a a 1;?", 1, 10);
        faultOf("span ?", 1, 5);
        faultOf("span 1?", 1, 6);
        faultOf("span 1;  ?", 1, 9);
    }

    private static void terms1Fault2TokenThatCanNotStandThere() {
        for (String s : new String[] {".", "*", ";", "7", "77"}) faultOf(s + " zone a;", 2, 0);
        for (String s : new String[] {";", "7"}) faultOf("zone " + s, 2, 5);
        for (String s : new String[] {".", "*", "a", "7"}) faultOf("zone . " + s, 2, 7);
        for (String s : new String[] {"*", "a", "7"}) faultOf("zone a " + s, 2, 7);
        for (String s : new String[] {".", ";", "7"}) faultOf("zone a." + s, 2, 7);
        for (String s : new String[] {".", ";", "7"}) faultOf("zone d.c.b.a." + s, 2, 13);
        for (String s : new String[] {";", "7"}) faultOf("plain " + s, 2, 6);
        for (String s : new String[] {";", "7"}) faultOf("rec " + s, 2, 4);
        for (String s : new String[] {".", "*", ";", "7"}) faultOf("rec . " + s, 2, 6);
        for (String s : new String[] {"*", ";", "7"}) faultOf("rec a " + s, 2, 6);
        for (String s : new String[] {".", "*", ";", "a"}) faultOf("rec a a " + s, 2, 8);
        for (String s : new String[] {".", "*", "a", "7"}) faultOf("rec a a 1 " + s, 2, 10);
        for (String s : new String[] {".", "*", ";", "a"}) faultOf("span " + s, 2, 5);
        for (String s : new String[] {".", "*", "a", "7"}) faultOf("span 1 " + s, 2, 7);
    }

    private static void terms1Fault2WordThatBeginsNoLine() {
        for (String s : new String[] {"a", "zon", "zones", "rec1", "recs", "re", "spa", "spans", "plai", "plains", "zonezone", "one"}) {
            boolean isRec = s.equals("rec1");
            faultOf(s + " a;", 2, isRec ? 3 : 0);
            faultOf("zone a; " + s, 2, isRec ? 11 : 8);
        }
    }

    private static void terms1Fault2WordThatIsNoSort() {
        for (String s : new String[] {"b", "z", "at", "aa", "tm", "zone", "rec"}) faultOf("rec a " + s + " 1;", 2, 6);
    }

    private static void terms1Fault2TheEndIsAtTheLength() {
        String[] cut = {"zone", "zone a", "zone a.", "zone a.b", "zone .", "plain", "rec", "rec a", "rec .", "rec a a", "rec a a 1", "span", "span 1",
            "zone a;rec"};
        for (String s : cut) {
            faultOf(s, 2, s.length());
            faultOf(s + "   ", 2, s.length() + 3);
        }
    }

    private static void terms1Fault3LabelOfMoreThan3Letters() {
        faultOf("zone abcd;", 3, 5);
        faultOf("plain abcd;", 3, 6);
        faultOf("rec abcd a 1;", 3, 4);
        faultOf("rec *.abcd a 1;", 3, 6);
        faultOf("rec abc.abc.abc.abcd a 1;", 3, 16);
        faultOf("zone abcdefghijklmnopqrstuvwxyz", 3, 5);
    }

    private static void terms1Fault3TheFifthLabelAsTheyAreWritten() {
        faultOf("zone e.d.c.b.a;", 3, 13);
        faultOf("zone e.d.c.b.*;", 3, 13);
        faultOf("zone e.d.c.b.abcd;", 3, 13);
        faultOf("plain e.d.c.b . a.q;", 3, 16);
        due("four are fine", told("zone d.c.b.a;").rule(0), 2);
    }

    private static void terms1Fault3NumberOutOfItsBounds() {
        faultOf("span 0;", 3, 5);
        faultOf("span  61", 3, 6);
        faultOf("zone a;span 0", 3, 12);
    }

    private static void terms1Fault4The4thZoneAtItsWord() {
        faultOf("zone a;zone b;zone c;zone d;", 4, 21);
        faultOf("plain a;plain b;plain c; plain d;", 4, 25);
        faultOf("zone a;plain b;zone c;rec d a 1;plain", 4, 32);
        faultOf("zone a;zone b;zone c;zone a;", 4, 21);
        faultOf("zone a;zone b;zone c;zone ?", 4, 21);
        due("three are fine", told("zone a;zone b;zone c;rec d a 1;").rule(0), 4);
    }

    private static void terms1Fault4SpanForTheSecondTimeAtItsWord() {
        faultOf("span 5;span 5;", 4, 7);
        faultOf("span 5;zone a; span", 4, 15);
        faultOf("span 5;span ?", 4, 7);
        faultOf("span 5;span 61;", 4, 7);
    }

    private static void terms1Fault5TheApexOfAZoneToldBeforeOrTheRoot() {
        faultOf("zone a;zone a;", 5, 13);
        faultOf("zone a;plain a ;", 5, 15);
        faultOf("plain *.a;zone b;zone *.a;", 5, 25);
        faultOf("zone .;", 5, 6);
        faultOf("plain  .  ;", 5, 10);
        due("others are fine", told("zone a;zone aa;zone a.a;rec a a 1;").rule(0), 4);
    }

    private static void terms1Fault5RecordOfThatNameAndSort() {
        faultOf("rec a a 1;rec a a 2;", 5, 19);
        faultOf("rec . t 1;rec . t 1 ;", 5, 20);
        faultOf("rec a a 1;rec b a 1;rec a t 1;rec b a 1;", 5, 39);
        due("others are fine", told("rec a a 1;rec a t 1;rec a m 1;rec aa a 1;rec a.a a 1;").rule(1), 5);
    }

    private static void terms1Fault5IsMetBehindTheLineAlone() {
        faultOf("zone a;zone a", 2, 13);
        faultOf("zone a;zone a?", 1, 13);
        faultOf("zone .", 2, 6);
        faultOf("zone . a;", 2, 7);
        faultOf("rec a a 1;rec a a 1", 2, 19);
        faultOf("rec a a 1;rec a a 100;", 1, 18);
        faultOf("rec a a 1;rec a a;", 2, 17);
    }

    private static void terms1FaultsTheFirstMetIsTold() {
        // A TOKEN is read when the one before has been taken.
        faultOf("zone abcd?", 3, 5);
        faultOf("span 61?", 3, 5);
        faultOf("span 0", 3, 5);
        faultOf("rec a b?", 2, 6);
        faultOf("zones?", 2, 0);
        faultOf("zone a;zone a;?", 5, 13);
        faultOf("rec a a 1;rec a a 2;zone .;", 5, 19);
        faultOf("zone abcd;zone .;", 3, 5);
        faultOf("span 61;span 5;", 3, 5);
        faultOf("zone ?;zone abcd;", 1, 5);
        faultOf("zone a;zone b;zone c;span 0;zone d;", 3, 26);
        faultOf("100 ?", 1, 0);
    }

    // ---- what a text leaves

    private static final String BEFORE = "zone a;plain b;rec c.a t 5;rec d m 6;span 20;";

    /** Nothing is as it was told: KEYS, DIGESTS, TRUST, CLOCK, THE CACHE, a PROOF, IMAGES, THE NAME. */
    private static GapProofs moved() {
        GapProofs x = told(BEFORE);
        x.tick(7);
        x.publish(1, 20);
        x.digest(1, 20);
        x.activate(1, 20);
        x.retire(1, 11);
        x.undigest(1, 11);
        x.publish(0, 30);
        x.digest(0, 30);
        x.activate(0, 30);
        due("check()", askAndCheck(x, "c.a", 1), 0);
        x.keep(0);
        x.keep(1);
        return x;
    }

    private static void terms1TextThatIsTakenIsAnew() {
        GapProofs x = moved();
        row("rule ahead of it", rules(x), 3, 2, 7, 20, 4, 3, 3, 0, 2);
        due("text()", tell(x, "plain z;zone a;zone y.a;rec c.a a 9;"), 4);
        row("rule", rules(x), 4, 1, 0, 10, NONE, 0, 0, 0, 0);
        row("ZONE 0", zoneRow(x, 0), 1, NONE, 0, 3, 0, 1, 1, 10);
        row("ZONE 1", zoneRow(x, 1), 0, 0, 1, 1, 0, 0, 0, NONE);
        row("ZONE 2", zoneRow(x, 2), 1, 0, 1, 3, 1, 1, 1, 12);
        row("ZONE 3", zoneRow(x, 3), 1, 2, 2, 1, 0, 1, 1, 13);
        for (int z = 0; z < 4; z++) {
            int[] key = z == 1 ? new int[] {} : new int[] {10 + z}, since = z == 1 ? new int[] {} : new int[] {0};
            row("KEYS of ZONE " + z, keyRow(x, z, 0), key);
            row("DIGESTS of ZONE " + z, keyRow(x, z, 1), key);
            row("KEYS of ZONE " + z + " since", keyRow(x, z, 2), since);
            row("DIGESTS of ZONE " + z + " since", keyRow(x, z, 3), since);
        }
        due("LABELS of THE NAME", x.name(0), 0);
        due("item(0, 0)", x.item(0, 0), STATE);
        due("check()", x.check(), STATE);
        due("checked(0)", x.checked(0), STATE);
        due("entry(0, 0)", x.entry(0, 0), NONE);
        due("back(0)", x.back(0), STATE);
        due("back(1)", x.back(1), STATE);
        answerIs(x, "c.a", 1, 1, NONE);
        answerIs(x, "d", 2, 4, NONE);
    }

    private static void terms1TextThatIsTakenIsAnewThoughItTellsTheSame() {
        GapProofs x = moved();
        due("text()", tell(x, BEFORE), 5);
        row("all that can be read at once", atOnce(x), atOnce(told(BEFORE)));
        row("ITEMS and ENTRIES", itemsAndEntries(x), itemsAndEntries(told(BEFORE)));
    }

    /** Nothing of the KEYS and DIGESTS that were there is in what a PROOF tells then. */
    private static void terms1TextThatIsTakenIsAnewForItsProofs() {
        GapProofs x = told(BEFORE);
        for (int z = 0; z < 2; z++) {
            x.publish(z, 20);
            x.publish(z, 30);
            x.digest(z, 20);
        }
        due("check()", askAndCheck(x, "c.a", 1), 0);
        due("text()", tell(x, BEFORE), 5);
        due("ask(1)", ask(x, "c.a", 1), 4);
        itemIs(x, 0, ".", null, 1, 0, 0, 10, 0, 0, 10);
        itemIs(x, 1, "a", null, 0, 1, 0, 11, 0, 0, 10);
        itemIs(x, 2, "a", null, 1, 1, 0, 11, 0, 0, 11);
        due("check()", x.check(), 0);
        row("ENTRY 2", entryRow(x, 2), 1, 1, 11, 0, 0, 1, 20);
    }

    private static void terms1TextWithAFaultLeavesAllThatWasTold() {
        String[] faulty = {"zone q;rec c.a t 9;span 3;?", "zone q;rec c.a t 9;span 3;zone", "rec c.a t 9;span 61;",
            "span 3;rec q a 1;span 3;", "plain q;rec c.a t 9;zone q;"};
        int[] places = {26, 30, 17, 17, 26};
        for (int n = 0; n < 5; n++) {
            GapProofs x = moved();
            due("text() with FAULT " + (n + 1), tell(x, faulty[n]), -10 - places[n]);
            due("fault()", x.fault(), n + 1);
            row("rule", rules(x), 3, 2, 7, 20, 4, 3, 3, 0, 2);
            row("ZONE 1", zoneRow(x, 1), 1, 0, 1, 2, 1, 1, 1, 20);
            row("ZONE 0", zoneRow(x, 0), 1, NONE, 0, 4, 1, 2, 2, 30);
            same("THE NAME", dotted(x), "c.a");
            due("answer(1, 1)", x.answer(1, 1), 5);
            due("check()", x.check(), 0);
            due("checked(0)", x.checked(0), 5);
            due("back(1)", x.back(1), 2);
        }
    }

    private static void terms1AtFirstZone0AloneAnewSpan10() {
        GapProofs x = new GapProofs();
        row("rule", rules(x), 1, 0, 0, 10, NONE, 0, 0, 0, 0);
        row("KEYS", with(keyRow(x, 0, 0), keyRow(x, 0, 2)), 10, 0);
        row("TRUST", with(keyRow(x, 0, 1), keyRow(x, 0, 3)), 10, 0);
        row("as behind an empty text", atOnce(x), atOnce(told("")));
    }
}
