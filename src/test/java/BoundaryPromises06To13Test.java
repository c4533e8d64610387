/** The boundary cases of promises 6 to 13: THE NAME, ZONES, KEYS, what rule() tells. */
public final class BoundaryPromises06To13Test extends Bench {
    public static void main(String[] args) {
        finish("boundaries of promises 6 to 13: " + runAll(BoundaryPromises06To13Test.class) + " tests");
    }

    private static GapProofs named(String dotted) {
        GapProofs x = new GapProofs();
        call(x, dotted);
        return x;
    }

    private static final String FAMILY = "zone a;plain b;zone c.a;rec d.a t 5;rec e.c.a m 6;rec f a 7;";

    // ---- 6

    private static void labelIs(int a, int b, int c, int want) {
        GapProofs x = new GapProofs();
        due("label(" + a + ", " + b + ", " + c + ")", x.label(a, b, c), want);
        if (want > 0) row("its letters", letters(x), 1, a, b, c);
        else row("THE NAME", letters(x), 0);
    }

    private static void promise06LabelOfLetters1To26() {
        int[][] fine = {{1, 0, 0}, {26, 0, 0}, {1, 1, 0}, {1, 26, 0}, {26, 1, 0}, {1, 1, 1}, {26, 26, 26}, {1, 1, 26}, {13, 26, 1}};
        for (int[] f : fine) labelIs(f[0], f[1], f[2], 1);
    }

    private static void promise06LabelOfTheStarIs27Alone() {
        labelIs(27, 0, 0, 1);
        int[][] bad = {{27, 1, 0}, {27, 0, 1}, {27, 1, 1}, {27, 27, 0}, {27, 27, 27}, {27, 0, 27}, {27, 28, 0}, {27, -1, 0}, {27, 0, -1},
            {1, 27, 0}, {1, 1, 27}, {1, 27, 27}};
        for (int[] b : bad) labelIs(b[0], b[1], b[2], BAD);
    }

    private static void promise06LabelWhoseFirstLetterIs0IsBad() {
        int[][] bad = {{0, 0, 0}, {0, 1, 0}, {0, 0, 1}, {0, 1, 1}, {0, 27, 0}};
        for (int[] b : bad) labelIs(b[0], b[1], b[2], BAD);
    }

    private static void promise06LabelWithALetterBehindA0IsBad() {
        int[][] bad = {{1, 0, 1}, {1, 0, 26}, {26, 0, 1}, {1, 0, 27}, {1, 0, -1}};
        for (int[] b : bad) labelIs(b[0], b[1], b[2], BAD);
    }

    private static void promise06LabelWithALetterOutOfItsBoundsIsBad() {
        int[][] bad = {{-1, 0, 0}, {28, 0, 0}, {1, -1, 0}, {1, 28, 0}, {1, 1, -1}, {1, 1, 28}, {33, 0, 0}, {1, 32, 0}, {1, 33, 0}, {1, 1, 32}};
        for (int[] b : bad) labelIs(b[0], b[1], b[2], BAD);
        for (int far : FAR) {
            labelIs(far, 1, 1, BAD);
            labelIs(1, far, 1, BAD);
            labelIs(1, 1, far, BAD);
        }
    }

    private static void promise06LabelComesBehindTheOthers() {
        GapProofs x = new GapProofs();
        due("the first", x.label(1, 0, 0), 1);
        due("the second", x.label(2, 3, 0), 2);
        due("the third", x.label(27, 0, 0), 3);
        due("the fourth", x.label(26, 26, 26), 4);
        row("letters", letters(x), 4, 1, 0, 0, 2, 3, 0, 27, 0, 0, 26, 26, 26);
        same("THE NAME", dotted(x), "zzz.*.bc.a");
    }

    private static void promise06LabelTheFifthIsFull() {
        GapProofs x = named("d.c.b.a");
        due("label(1, 0, 0)", x.label(1, 0, 0), FULL);
        due("label(27, 0, 0)", x.label(27, 0, 0), FULL);
        due("label(26, 26, 26)", x.label(26, 26, 26), FULL);
        same("THE NAME", dotted(x), "d.c.b.a");
        due("up(1)", x.up(1), 3);
        due("label(27, 0, 0) then", x.label(27, 0, 0), 4);
        same("THE NAME", dotted(x), "*.c.b.a");
    }

    private static void promise06LabelBadIsAheadOfFull() {
        GapProofs x = named("d.c.b.a");
        due("label(0, 0, 0)", x.label(0, 0, 0), BAD);
        due("label(1, 0, 1)", x.label(1, 0, 1), BAD);
        due("label(27, 1, 0)", x.label(27, 1, 0), BAD);
        due("label(28, 0, 0)", x.label(28, 0, 0), BAD);
    }

    // ---- 7

    private static void promise07UpOf0LosesNone() {
        due("of the ROOT", named(".").up(0), 0);
        GapProofs x = named("d.c.b.a");
        due("of four", x.up(0), 4);
        same("THE NAME", dotted(x), "d.c.b.a");
    }

    private static void promise07UpOfAllThatItHasIsTheRoot() {
        due("of one", named("a").up(1), 0);
        GapProofs x = named("d.c.b.a");
        due("of four", x.up(4), 0);
        same("THE NAME", dotted(x), ".");
        due("letter(0, 0)", x.letter(0, 0), BAD);
    }

    private static void promise07UpOfMoreThanItHasIsBad() {
        due("up(1) of the ROOT", named(".").up(1), BAD);
        due("up(2) of one", named("a").up(2), BAD);
        GapProofs x = named("d.c.b.a");
        due("up(5) of four", x.up(5), BAD);
        due("up(far) of four", x.up(Integer.MAX_VALUE), BAD);
        same("THE NAME", dotted(x), "d.c.b.a");
    }

    private static void promise07UpBelow0IsBad() {
        GapProofs x = named("b.a");
        due("up(-1)", x.up(-1), BAD);
        due("up(far)", x.up(Integer.MIN_VALUE), BAD);
        same("THE NAME", dotted(x), "b.a");
    }

    private static void promise07UpLosesTheLastLabels() {
        GapProofs x = named("d.c.b.a");
        due("up(1)", x.up(1), 3);
        same("THE NAME", dotted(x), "c.b.a");
        due("letter(3, 0)", x.letter(3, 0), BAD);
        due("up(2)", x.up(2), 1);
        same("THE NAME", dotted(x), "a");
        // What was lost does not come again with a LABEL more.
        x.label(26, 0, 0);
        same("THE NAME", dotted(x), "z.a");
    }

    // ---- 8

    private static void promise08OwnerAtAndBehindTheLast() {
        GapProofs x = told(FAMILY);
        due("owner(0, 3)", x.owner(0, 3), 1);
        same("THE NAME", dotted(x), "f");
        due("owner(0, 4)", x.owner(0, 4), NONE);
        due("owner(1, 2)", x.owner(1, 2), 2);
        same("THE NAME", dotted(x), "d.a");
        due("owner(1, 3)", x.owner(1, 3), NONE);
        due("owner(2, 0)", x.owner(2, 0), 1);
        due("owner(2, 1)", x.owner(2, 1), NONE);
        due("owner(3, 1)", x.owner(3, 1), 3);
        due("owner(3, 2)", x.owner(3, 2), NONE);
        due("owner(3, far)", x.owner(3, Integer.MAX_VALUE), NONE);
        same("THE NAME stays", dotted(x), "e.c.a");
    }

    private static void promise08OwnerOfNoZoneIsBad() {
        GapProofs x = told(FAMILY);
        call(x, "q.a");
        for (int z : new int[] {-1, 4, Integer.MIN_VALUE, Integer.MAX_VALUE}) {
            due("owner(" + z + ", 0)", x.owner(z, 0), BAD);
            due("owner(" + z + ", 99)", x.owner(z, 99), BAD);
        }
        due("owner(1, 0) where there is ZONE 0 alone", new GapProofs().owner(1, 0), BAD);
        same("THE NAME stays", dotted(x), "q.a");
    }

    private static void promise08OwnerBelow0IsBad() {
        GapProofs x = told(FAMILY);
        call(x, "q.a");
        due("owner(0, -1)", x.owner(0, -1), BAD);
        due("owner(3, far)", x.owner(3, Integer.MIN_VALUE), BAD);
        same("THE NAME stays", dotted(x), "q.a");
    }

    private static void promise08OwnerOfNoLabelAndOf4() {
        GapProofs x = told("rec d.c.b.a a 1;");
        due("owner(0, 1)", x.owner(0, 1), 4);
        same("THE NAME", dotted(x), "d.c.b.a");
        due("owner(0, 0)", x.owner(0, 0), 0);
        same("THE NAME", dotted(x), ".");
    }

    /** The APEX, 24 NAMES of RECORDS, three APEXES below: there can't be more. */
    private static GapProofs with28Owners() {
        GapProofs x = told("zone z;plain y;zone zz;");
        for (int n = 1; n <= 24; n++) {
            x.up(x.name(0));
            x.label(n, 1, 0);
            due("put, the " + n + ". one", x.put(n % 3, n), NONE);
        }
        return x;
    }

    private static void promise08OwnersAre28AtMost() {
        GapProofs x = with28Owners();
        due("owner(0, 24)", x.owner(0, 24), 1);
        same("the last RECORD", dotted(x), "xa");
        due("owner(0, 25)", x.owner(0, 25), 1);
        same("the first APEX", dotted(x), "y");
        due("owner(0, 27)", x.owner(0, 27), 1);
        same("the last one", dotted(x), "zz");
        due("owner(0, 28)", x.owner(0, 28), NONE);
    }

    // ---- 9

    private static void promise09NameOfNoSuchThingIsBad() {
        GapProofs x = told(FAMILY);
        due("name(-1)", x.name(-1), BAD);
        due("name(7)", x.name(7), BAD);
        for (int far : FAR) due("name(far)", x.name(far), BAD);
    }

    private static void promise09NameOfTheRootAndOf4Labels() {
        GapProofs x = told(FAMILY);
        row("the ROOT", nameRow(x, "."), 0, 0, 1, 32, 0, 0, 0);
        row("*.*.*.*", nameRow(x, "*.*.*.*"), 4, 0, 0, 0, NONE, 1, 0);
        row("z.z.z.z", nameRow(x, "z.z.z.z"), 4, 0, 0, 0, NONE, 4, 0);
        row("z.e.c.a", nameRow(x, "z.e.c.a"), 4, 3, 0, 0, NONE, 2, 3);
    }

    private static void promise09NameWhichOwnerItIs() {
        GapProofs x = told(FAMILY);
        row("a, an APEX", nameRow(x, "a"), 1, 1, 1, 32, 0, 0, 1);
        row("d.a, the last one", nameRow(x, "d.a"), 2, 1, 1, 2, 2, 2, 2);
        row("c.a, in its own ZONE", nameRow(x, "c.a"), 2, 3, 1, 32, 0, 0, 2);
        row("b, PLAIN", nameRow(x, "b"), 1, 2, 1, 32, 0, 0, 1);
        row("z.b, none", nameRow(x, "z.b"), 2, 2, 0, 0, NONE, 1, 1);
    }

    private static void promise09NameHowManyOwnersAreAhead() {
        GapProofs x = told("rec b a 1;rec c.b a 1;rec d a 1;");
        String[] names = {".", "*", "a", "b", "*.b", "b.b", "c.b", "d.c.b", "d.b", "c", "d", "a.d", "z"};
        int[] ahead = {0, 1, 1, 1, 2, 2, 2, 3, 3, 3, 3, 4, 4};
        for (int i = 0; i < names.length; i++) {
            call(x, names[i]);
            due("OWNERS ahead of " + names[i], x.name(5), ahead[i]);
        }
        x = with28Owners();
        call(x, "zz");
        due("OWNERS ahead of the last of 28", x.name(5), 0);
        call(x, "zzz");
        due("OWNERS ahead of what is behind 28", x.name(5), 28);
    }

    private static void promise09NameLabelsOfClosest() {
        GapProofs x = told("zone a;rec d.c.b.a a 1;");
        String[] names = {"a", "b.a", "c.b.a", "d.c.b.a", "e.c.b.a", "d.d.b.a", "d.c.c.a", "z", "z.z.z.z"};
        int[] labels = {1, 2, 3, 4, 3, 2, 1, 0, 0};
        for (int i = 0; i < names.length; i++) {
            call(x, names[i]);
            due("LABELS of CLOSEST of " + names[i], x.name(6), labels[i]);
        }
    }

    /** CLOSEST is at least the APEX: no NAME ABOVE it counts, though it EXISTS elsewhere. */
    private static void promise09NameLabelsOfClosestAreThoseOfTheApexAtLeast() {
        GapProofs x = told("zone c.b.a;rec d.b.a a 1;");
        call(x, "z.c.b.a");
        due("LABELS of CLOSEST", x.name(6), 3);
        call(x, "c.b.a");
        due("of the APEX itself", x.name(6), 3);
    }

    // ---- 10

    private static void promise10LetterAtAndBehindTheLastLabel() {
        GapProofs x = named("d.c.b.a");
        due("letter(3, 0)", x.letter(3, 0), 4);
        due("letter(4, 0)", x.letter(4, 0), BAD);
        x.up(3);
        due("letter(0, 0)", x.letter(0, 0), 1);
        due("letter(1, 0)", x.letter(1, 0), BAD);
        x.up(1);
        due("letter(0, 0) of the ROOT", x.letter(0, 0), BAD);
    }

    private static void promise10LetterBelow0IsBad() {
        GapProofs x = named("abc");
        due("letter(-1, 0)", x.letter(-1, 0), BAD);
        due("letter(0, -1)", x.letter(0, -1), BAD);
        for (int far : FAR) {
            due("letter(far, 0)", x.letter(far, 0), BAD);
            due("letter(0, far)", x.letter(0, far), BAD);
        }
    }

    private static void promise10LetterIs0To2() {
        GapProofs x = named("abc");
        row("letters", new int[] {x.letter(0, 0), x.letter(0, 1), x.letter(0, 2)}, 1, 2, 3);
        due("letter(0, 3)", x.letter(0, 3), BAD);
        due("letter(1, 3)", x.letter(1, 3), BAD);
    }

    private static void promise10LetterThatIsNotThereIs0() {
        GapProofs x = named("*.zy.z");
        row("letters", letters(x), 3, 26, 0, 0, 26, 25, 0, 27, 0, 0);
        due("letter(0, 3) of one letter", x.letter(0, 3), BAD);
        due("letter(2, 3) of the STAR", x.letter(2, 3), BAD);
    }

    // ---- 11

    private static void promise11ZoneThatIsNotThereIsBad() {
        GapProofs x = told("zone a;plain b;");
        for (int z : new int[] {-1, 3, 4, Integer.MIN_VALUE, Integer.MAX_VALUE})
            for (int what = 0; what < 8; what++) due("zone(" + z + ", " + what + ")", x.zone(z, what), BAD);
        due("zone(2, 0)", x.zone(2, 0), 0);
    }

    private static void promise11ZoneOfNoSuchThingIsBad() {
        GapProofs x = told(FAMILY);
        for (int z = 0; z < 4; z++) {
            due("zone(" + z + ", -1)", x.zone(z, -1), BAD);
            due("zone(" + z + ", 8)", x.zone(z, 8), BAD);
            for (int far : FAR) due("zone(" + z + ", far)", x.zone(z, far), BAD);
        }
    }

    private static void promise11ZoneParentOfZone0IsNone() {
        GapProofs x = told(FAMILY);
        row("PARENTS", new int[] {x.zone(0, 1), x.zone(1, 1), x.zone(2, 1), x.zone(3, 1)}, NONE, 0, 0, 1);
    }

    private static void promise11ZoneActiveKeyOfAPlainOneIsNone() {
        GapProofs x = told(FAMILY);
        row("ACTIVE KEYS", new int[] {x.zone(0, 7), x.zone(1, 7), x.zone(2, 7), x.zone(3, 7)}, 10, 11, NONE, 13);
        row("of a PLAIN one", zoneRow(x, 2), 0, 0, 1, 1, 0, 0, 0, NONE);
    }

    private static void promise11ZoneOwnersAndRecordsTheMostOfThem() {
        GapProofs x = with28Owners();
        row("ZONE 0", zoneRow(x, 0), 1, NONE, 0, 28, 24, 1, 1, 10);
        row("ZONE 1", zoneRow(x, 1), 1, 0, 1, 1, 0, 1, 1, 11);
    }

    private static void promise11ZoneKeysAndDigestsTheMostAndTheFewest() {
        GapProofs x = told(FAMILY);
        x.publish(1, 1);
        x.publish(1, 999);
        x.digest(1, 999);
        x.digest(0, 5);
        x.undigest(3, 13);
        row("KEYS", new int[] {x.zone(0, 5), x.zone(1, 5), x.zone(2, 5), x.zone(3, 5)}, 1, 3, 0, 1);
        row("DIGESTS", new int[] {x.zone(0, 6), x.zone(1, 6), x.zone(2, 6), x.zone(3, 6)}, 2, 2, 0, 0);
    }

    // ---- 12

    private static void promise12KeyAtAndBehindTheLast() {
        GapProofs x = told(FAMILY);
        due("key(0, 0, 0)", x.key(0, 0, 0), 10);
        due("key(0, 1, 0)", x.key(0, 1, 0), NONE);
        due("key(0, 1, 1)", x.key(0, 1, 1), NONE);
        x.tick(4);
        x.publish(1, 999);
        x.publish(1, 1);
        x.digest(1, 1);
        row("key(1, 2, what)", new int[] {x.key(1, 2, 0), x.key(1, 2, 1), x.key(1, 2, 2), x.key(1, 2, 3)}, 999, NONE, 4, NONE);
        row("key(1, 1, what)", new int[] {x.key(1, 1, 0), x.key(1, 1, 1), x.key(1, 1, 2), x.key(1, 1, 3)}, 11, 11, 0, 0);
        for (int what = 0; what < 4; what++) {
            due("key(1, 3, " + what + ")", x.key(1, 3, what), NONE);
            due("key(1, far, " + what + ")", x.key(1, Integer.MAX_VALUE, what), NONE);
        }
    }

    private static void promise12KeyOfAPlainZoneAndWhereThereAreNoDigestsIsNone() {
        GapProofs x = told(FAMILY);
        x.undigest(1, 11);
        for (int what = 0; what < 4; what++) due("key(2, 0, " + what + ")", x.key(2, 0, what), NONE);
        row("key(1, 0, what)", new int[] {x.key(1, 0, 0), x.key(1, 0, 1), x.key(1, 0, 2), x.key(1, 0, 3)}, 11, NONE, 0, NONE);
    }

    private static void promise12KeyBadIsAheadOfNone() {
        GapProofs x = told(FAMILY);
        int[][] bad = {{-1, 0, 0}, {4, 0, 0}, {0, -1, 0}, {0, 0, -1}, {0, 0, 4}, {4, 9, 0}, {0, 9, 4}, {0, 9, -1}, {2, -1, 0}, {2, 0, 4}};
        for (int[] b : bad) due("key(" + b[0] + ", " + b[1] + ", " + b[2] + ")", x.key(b[0], b[1], b[2]), BAD);
        for (int far : FAR) {
            due("key(far, 0, 0)", x.key(far, 0, 0), BAD);
            due("key(0, 0, far)", x.key(0, 0, far), BAD);
        }
        due("key(0, far, 0)", x.key(0, Integer.MIN_VALUE, 0), BAD);
    }

    private static void promise12KeysAreByNumberWheneverTheyCame() {
        GapProofs x = told(FAMILY);
        x.tick(1);
        x.publish(3, 999);
        x.digest(3, 1);
        x.tick(1);
        x.publish(3, 12);
        row("KEYS", keyRow(x, 3, 0), 12, 13, 999);
        row("KEYS since", keyRow(x, 3, 2), 2, 0, 1);
        row("DIGESTS", keyRow(x, 3, 1), 1, 13);
        row("DIGESTS since", keyRow(x, 3, 3), 1, 0);
    }

    private static void promise12KeySinceTheLastClock() {
        GapProofs x = told(FAMILY);
        x.tick(1000000000);
        x.tick(1000000000);
        x.tick(147483647);
        x.publish(0, 20);
        x.digest(0, 20);
        due("key(0, 1, 2)", x.key(0, 1, 2), 2147483647);
        due("key(0, 1, 3)", x.key(0, 1, 3), 2147483647);
    }

    // ---- 13

    private static void promise13RuleOfNoSuchThingIsBad() {
        GapProofs x = told(FAMILY);
        due("rule(-1)", x.rule(-1), BAD);
        due("rule(9)", x.rule(9), BAD);
        for (int far : FAR) due("rule(far)", x.rule(far), BAD);
    }

    private static void promise13RuleOfItemsIsNoneWithoutAProofAnd0OfOneWithoutItems() {
        GapProofs x = told("zone a;zone b.a;zone c.b.a;rec d.c.b.a a 1;");
        due("without a PROOF", x.rule(4), NONE);
        ask(x, "e.c.b.a", 0);
        due("the longest one", x.rule(4), 9);
        for (int left = 8; left >= 0; left--) {
            x.lose(0);
            due("less one", x.rule(4), left);
        }
        x.keep(0);
        x.back(0);
        due("behind back()", x.rule(4), NONE);
    }

    private static void promise13RuleOfEntriesAndOfThoseThatAreAlive() {
        GapProofs x = told("zone a;zone b;rec e.a a 1;rec e.b a 1;span 5;");
        row("none", new int[] {x.rule(5), x.rule(6)}, 0, 0);
        askAndCheck(x, "e.a", 0);
        x.tick(1);
        row("three", new int[] {x.rule(5), x.rule(6)}, 3, 3);
        askAndCheck(x, "e.b", 0);
        row("four", new int[] {x.rule(5), x.rule(6)}, 4, 4);
        x.tick(4);
        row("two have ended", new int[] {x.rule(5), x.rule(6)}, 4, 2);
        x.tick(1);
        row("all have ended", new int[] {x.rule(5), x.rule(6)}, 4, 0);
    }

    private static void promise13RuleTheLeastAndTheMost() {
        GapProofs x = new GapProofs();
        row("a new object", rules(x), 1, 0, 0, 10, NONE, 0, 0, 0, 0);
        x = with28Owners();
        x.tick(1000000000);
        x.tick(1000000000);
        x.tick(147483647);
        for (int n = 0; n < 200; n++) x.feed(n % 128);
        x.keep(0);
        x.keep(1);
        row("the most", rules(x), 4, 24, 2147483647, 10, NONE, 0, 0, 200, 2);
        due("SPAN 1", told("span 1;").rule(3), 1);
        due("SPAN 60", told("span 60;").rule(3), 60);
    }

    private static void promise13RuleOfImages() {
        GapProofs x = new GapProofs();
        due("none", x.rule(8), 0);
        x.keep(1);
        due("IMAGE 1", x.rule(8), 1);
        x.keep(1);
        due("IMAGE 1 again", x.rule(8), 1);
        x.keep(0);
        due("both", x.rule(8), 2);
        x.back(0);
        due("both behind back()", x.rule(8), 2);
        x.text();
        due("ANEW", x.rule(8), 0);
    }
}
