/** The boundary cases of part 3 of the Terms: THE CACHE, and what a CHECK shows or by what it is BROKEN. */
public final class BoundaryTerms3Test extends Bench {
    public static void main(String[] args) {
        finish("boundaries of the Terms, part 3: " + runAll(BoundaryTerms3Test.class) + " tests");
    }

    private static final int BROKEN_1 = -21, BROKEN_2 = -22, BROKEN_3 = -23, BROKEN_4 = -24, INSECURE = 5;

    private static final String TWO = "zone a;zone b;rec e.a a 2;rec e.b a 3;";

    private static GapProofs asked(String text, String name, int sort) {
        GapProofs x = told(text);
        ask(x, name, sort);
        return x;
    }

    private static int alterAndSign(GapProofs x, int i, int what, int v) {
        x.alter(i, what, v);
        return x.sign(i);
    }

    private static int renameAndSign(GapProofs x, int i, int what, String dotted) {
        call(x, dotted);
        x.rename(i, what);
        return x.sign(i);
    }

    private static void endsOf(GapProofs x, int... minutes) {
        for (int i = 0; i < minutes.length; i++) due("in how many minutes ENTRY " + i + " ends", x.entry(i, 6), minutes[i]);
    }

    // ---- THE CACHE

    /** At the last CLOCK at which an ENTRY is ALIVE, and at the first at which it is not. */
    private static void terms3EntryIsAliveIfClockIsLess() {
        for (int span : new int[] {1, 2, 10, 59, 60}) {
            GapProofs x = told("span " + span + ";");
            x.ask(0);
            due("check()", x.check(), 1);
            row("ENTRY 0 at once", entryRow(x, 0), 0, 1, 10, 0, 0, 1, span);
            if (span > 1) x.tick(span - 1);
            row("ENTRY 0 at the last CLOCK", entryRow(x, 0), 0, 1, 10, 0, 0, 1, 1);
            due("rule(6)", x.rule(6), 1);
            due("check() at the last CLOCK", x.check(), 1);
            due("nothing came by it", x.checked(2), 0);
            x.tick(1);
            row("ENTRY 0 at the first CLOCK at which it is not", entryRow(x, 0), 0, 1, 10, 0, 0, 0, 0);
            due("rule(6)", x.rule(6), 0);
            due("rule(5)", x.rule(5), 1);
            x.ask(0);
            due("check() then", x.check(), 1);
            due("what came by it", x.checked(2), 1);
            row("ENTRY 0 anew", entryRow(x, 0), 0, 1, 10, 0, 0, 1, span);
            due("rule(5)", x.rule(5), 1);
        }
    }

    private static void terms3EntryLastsSpanBehindTheClockOfTheProof() {
        GapProofs x = told("zone a;rec b.a a 1;span 6;");
        x.tick(3);
        ask(x, "b.a", 0);
        x.tick(2);
        due("check()", x.check(), 0);
        endsOf(x, 4, 4, 4);
        x.tick(3);
        due("rule(6) at the last CLOCK", x.rule(6), 3);
        x.tick(1);
        due("rule(6) then", x.rule(6), 0);
    }

    /** At the very CLOCK at which what is new would have ended, and beyond. */
    private static void terms3EntryOfAnOldProofIsNotAliveAndServesTheCheck() {
        for (int late : new int[] {5, 6, 1000000000}) {
            GapProofs x = told("zone a;rec b.a a 1;span 5;");
            ask(x, "b.a", 0);
            x.tick(late);
            checkIs(x, "what is old", 0, 1, 1, 3);
            row("ENTRIES", entries(x), 1, 10, 11);
            row("ENTRY 2", entryRow(x, 2), 1, 1, 11, 0, 0, 0, 0);
            due("rule(6)", x.rule(6), 0);
            checkIs(x, "what is old, again", 0, 1, 1, 3);
            row("ENTRIES", entries(x), 1, 10, 11);
        }
    }

    private static void terms3EntriesAre4AtMostOfTheFifthEntry0Goes() {
        GapProofs x = told(TWO);
        askAndCheck(x, "e.a", 0);
        row("three ENTRIES", entries(x), 1, 10, 11);
        ask(x, "e.b", 0);
        x.lose(2);
        checkIs(x, "e.b without KEYS", BROKEN_2, NONE, 2, 1);
        row("four ENTRIES", entries(x), 1, 10, 11, 20);
        ask(x, "e.b", 0);
        checkIs(x, "e.b", 0, 3, 2, 1);
        row("the fifth", entries(x), 10, 11, 20, 21);
        due("entry(4, 0)", x.entry(4, 0), NONE);
        due("rule(5)", x.rule(5), 4);
    }

    /** Each one that comes takes out what there was, and not ENTRY 0, though there are four. */
    private static void terms3NewEntryForWhatThereWasTakesThatOneOut() {
        GapProofs x = told(TWO);
        askAndCheck(x, "e.a", 0);
        ask(x, "e.b", 0);
        x.lose(2);
        x.check();
        row("four ENTRIES", entries(x), 1, 10, 11, 20);
        x.tick(10);
        ask(x, "e.a", 0);
        checkIs(x, "e.a", 0, 2, 1, 3);
        row("ENTRIES", entries(x), 20, 1, 10, 11);
        endsOf(x, 0, 10, 10, 10);
        x.tick(10);
        ask(x, "e.a", 0);
        x.check();
        row("ENTRIES", entries(x), 20, 1, 10, 11);
    }

    private static void terms3NewEntryComesBehindAll() {
        GapProofs x = told("zone a;rec b.a a 1;");
        ask(x, "b.a", 0);
        x.lose(2);
        due("check() without KEYS", x.check(), BROKEN_2);
        row("ENTRIES", entries(x), 1, 10);
        x.tick(3);
        ask(x, "b.a", 0);
        checkIs(x, "b.a", 0, 1, 1, 1);
        row("ENTRIES", entries(x), 1, 10, 11);
        endsOf(x, 7, 7, 10);
        // KEYS of ZONE 0 have ended, those of ZONE 1 not: then DIGESTS are not asked, though they have ended.
        x.tick(7);
        ask(x, "b.a", 0);
        checkIs(x, "b.a", 0, 1, 1, 1);
        row("ENTRIES", entries(x), 10, 11, 1);
        endsOf(x, 0, 3, 10);
    }

    private static void terms3DigestsThatAreAliveServeKeysThatAreNot() {
        GapProofs x = told("zone a;rec b.a a 1;");
        askAndCheck(x, "b.a", 0);
        x.tick(10);
        ask(x, "b.a", 0);
        x.lose(2);
        due("check() without KEYS", x.check(), BROKEN_2);
        row("ENTRIES", entries(x), 11, 1, 10);
        x.tick(9);
        ask(x, "b.a", 0);
        x.lose(1);
        checkIs(x, "b.a without DIGESTS", 0, 1, 1, 1);
        row("ENTRIES", entries(x), 1, 10, 11);
        endsOf(x, 1, 1, 10);
    }

    private static void terms3KeysThatAreAliveDoNotAskForDigests() {
        GapProofs x = told("zone a;rec b.a a 1;");
        askAndCheck(x, "b.a", 0);
        x.tick(9);
        ask(x, "b.a", 0);
        while (x.rule(4) > 1) x.lose(0);
        checkIs(x, "the RECORD alone, at the last CLOCK", 0, 1, 1, 0);
        x.tick(1);
        checkIs(x, "the RECORD alone, then", BROKEN_2, NONE, 0, 0);
    }

    private static void terms3EntryThatIsAliveIsNotProlonged() {
        GapProofs x = told("zone a;rec b.a a 1;");
        askAndCheck(x, "b.a", 0);
        x.tick(9);
        ask(x, "b.a", 0);
        checkIs(x, "b.a", 0, 1, 1, 0);
        endsOf(x, 1, 1, 1);
        row("ENTRIES", entries(x), 1, 10, 11);
    }

    /** A KEY that is new to THE CACHE leaves it in a hole till its ENTRY ends. */
    private static void terms3KeysOfAnAliveEntryAreKnownNotThoseOfTheProof() {
        GapProofs x = told("zone a;rec b.a a 1;");
        askAndCheck(x, "b.a", 0);
        x.publish(1, 20);
        x.digest(1, 20);
        x.activate(1, 20);
        x.tick(9);
        ask(x, "b.a", 0);
        checkIs(x, "b.a at the last CLOCK", BROKEN_3, NONE, 1, 0);
        x.tick(1);
        checkIs(x, "b.a then", 0, 1, 1, 3);
    }

    private static void terms3TrustIsAskedAtOnceIfKeysAreNotAlive() {
        GapProofs x = told("rec a a 1;");
        askAndCheck(x, "a", 0);
        x.digest(0, 20);
        x.undigest(0, 10);
        x.tick(9);
        checkIs(x, "KEYS that are ALIVE", 0, 1, 0, 0);
        x.tick(1);
        checkIs(x, "KEYS that are not", BROKEN_2, NONE, 0, 0);
        x.digest(0, 10);
        checkIs(x, "with TRUST", 0, 1, 0, 1);
    }

    private static void terms3EntryThatHasEndedStaysWhereNothingIsNew() {
        GapProofs x = told("zone a;rec b.a a 1;");
        askAndCheck(x, "b.a", 0);
        x.tick(10);
        ask(x, "b.a", 0);
        x.lose(1);
        checkIs(x, "without DIGESTS", BROKEN_1, NONE, 1, 1);
        row("ENTRIES", entries(x), 10, 11, 1);
        endsOf(x, 0, 0, 10);
    }

    // ---- what was found KNOWN stays so

    private static void terms3KnownKeysOfParentStaySoThoughTheirEntryGoes() {
        GapProofs x = asked("zone a;zone b.a;zone c.b.a;rec d.c.b.a a 1;", "d.c.b.a", 0);
        checkIs(x, "seven that come, four at most", 0, 1, 3, 7);
        row("ENTRIES", entries(x), 20, 21, 30, 31);
    }

    private static void terms3KnownDigestsStaySoThoughTheirEntryGoes() {
        GapProofs x = told(TWO);
        x.ask(0);
        due("check() of the ROOT", x.check(), 1);
        x.tick(5);
        ask(x, "e.b", 0);
        x.lose(2);
        due("check() without KEYS", x.check(), BROKEN_2);
        askAndCheck(x, "e.a", 0);
        row("four ENTRIES", entries(x), 1, 20, 10, 11);
        x.tick(5);
        ask(x, "e.b", 0);
        x.lose(1);
        // KEYS of ZONE 0 come behind all; DIGESTS of ZONE 2 are ENTRY 0 then, and go as its KEYS come.
        checkIs(x, "e.b without DIGESTS", 0, 3, 2, 2);
        row("ENTRIES", entries(x), 10, 11, 1, 21);
    }

    private static void terms3KnownKeysFromAnEntryStaySoThoughItGoes() {
        GapProofs x = told(TWO);
        askAndCheck(x, "e.a", 0);
        ask(x, "e.b", 0);
        x.lose(2);
        x.check();
        row("four ENTRIES", entries(x), 1, 10, 11, 20);
        ask(x, "e.b", 0);
        x.lose(0);
        checkIs(x, "e.b without KEYS of ZONE 0", 0, 3, 2, 1);
        row("ENTRIES", entries(x), 10, 11, 20, 21);
        // ENTRY 0 is gone for the next CHECK.
        checkIs(x, "e.b again", BROKEN_2, NONE, 0, 0);
    }

    // ---- numbers of 0 between others

    private static void entryOfKeys(int a, int b, int c, int k0, int k1, int k2) {
        GapProofs x = asked("zone a;rec b.a a 1;", "b.a", 0);
        x.alter(2, 5, a);
        x.alter(2, 6, b);
        alterAndSign(x, 2, 7, c);
        checkIs(x, "KEYS " + a + " " + b + " " + c, 0, 1, 1, 3);
        row("ENTRY of KEYS " + a + " " + b + " " + c, entryRow(x, 2), 1, 1, k0, k1, k2, 1, 10);
    }

    private static void terms3NumbersOfKeysThatAre0BetweenOthers() {
        entryOfKeys(11, 0, 0, 11, 0, 0);
        entryOfKeys(0, 11, 0, 11, 0, 0);
        entryOfKeys(0, 0, 11, 11, 0, 0);
        entryOfKeys(7, 0, 11, 7, 11, 0);
        entryOfKeys(11, 0, 7, 11, 7, 0);
        entryOfKeys(0, 11, 7, 11, 7, 0);
        entryOfKeys(0, 11, 11, 11, 11, 0);
        entryOfKeys(999, 11, 1, 999, 11, 1);
    }

    private static void entryOfDigests(int a, int b, int c, int k0, int k1, int k2) {
        GapProofs x = asked("zone a;rec b.a a 1;", "b.a", 0);
        x.alter(1, 5, a);
        x.alter(1, 6, b);
        alterAndSign(x, 1, 7, c);
        checkIs(x, "DIGESTS " + a + " " + b + " " + c, 0, 1, 1, 3);
        row("ENTRY of DIGESTS " + a + " " + b + " " + c, entryRow(x, 1), 1, 0, k0, k1, k2, 1, 10);
    }

    private static void terms3NumbersOfDigestsThatAre0BetweenOthers() {
        entryOfDigests(0, 11, 0, 11, 0, 0);
        entryOfDigests(0, 0, 11, 11, 0, 0);
        entryOfDigests(7, 0, 11, 7, 11, 0);
        entryOfDigests(0, 11, 7, 11, 7, 0);
        entryOfDigests(9, 8, 11, 9, 8, 11);
    }

    private static void terms3NumbersThatAreAll0() {
        GapProofs x = asked("zone a;rec b.a a 1;", "b.a", 0);
        alterAndSign(x, 1, 5, 0);
        checkIs(x, "DIGESTS of none", BROKEN_2, NONE, 1, 2);
        row("an ENTRY without KEYS", entryRow(x, 1), 1, 0, 0, 0, 0, 1, 10);
        x = asked("zone a;rec b.a a 1;", "b.a", 0);
        alterAndSign(x, 2, 5, 0);
        checkIs(x, "KEYS of none", BROKEN_2, NONE, 1, 2);
        row("ENTRIES", entries(x), 1, 10);
    }

    /** An ENTRY that tells no KEY is ALIVE all the same: no ITEM is asked in its place. */
    private static void terms3DigestsOfNoneInAnAliveEntryAreKnown() {
        GapProofs x = told("zone a;rec b.a a 1;");
        x.undigest(1, 11);
        ask(x, "b.a", 0);
        checkIs(x, "without a digest", BROKEN_2, NONE, 1, 2);
        x.digest(1, 11);
        x.tick(9);
        ask(x, "b.a", 0);
        checkIs(x, "with one, at the last CLOCK", BROKEN_2, NONE, 1, 0);
        x.tick(1);
        ask(x, "b.a", 0);
        checkIs(x, "with one, then", 0, 1, 1, 3);
    }

    // ---- BROKEN by 1

    private static void broken(String what, String text, String name, Call c, int by, int zone, int came) {
        GapProofs x = asked(text, name, 0);
        c.on(x);
        checkIs(x, what, by, NONE, zone, came);
    }

    private static final String ONE = "zone a;rec b.a a 1;";

    private static void terms3BrokenBy1WithoutDigestsThatAreRight() {
        broken("DIGESTS lost", ONE, "b.a", x -> x.lose(1), BROKEN_1, 1, 1);
        broken("DIGESTS altered", ONE, "b.a", x -> x.alter(1, 6, 20), BROKEN_1, 1, 1);
        broken("DIGESTS with another MARK", ONE, "b.a", x -> x.alter(1, 9, (x.item(1, 9) + 1) % 9973), BROKEN_1, 1, 1);
        broken("DIGESTS renamed", ONE, "b.a", x -> x.rename(1, 0), BROKEN_1, 1, 1);
        broken("DIGESTS by another KEY", ONE, "b.a", x -> alterAndSign(x, 1, 8, 20), BROKEN_1, 1, 1);
        broken("DIGESTS by the ZONE's own KEY", ONE, "b.a", x -> alterAndSign(x, 1, 8, 11), BROKEN_1, 1, 1);
        broken("DIGESTS with the KEY altered alone", ONE, "b.a", x -> x.alter(1, 8, 11), BROKEN_1, 1, 1);
    }

    private static void terms3BrokenBy1AtTheZoneWhereItIs() {
        String three = "zone a;zone b.a;zone c.b.a;rec d.c.b.a a 1;";
        broken("DIGESTS of ZONE 1 lost", three, "d.c.b.a", x -> x.lose(1), BROKEN_1, 1, 1);
        broken("DIGESTS of ZONE 2 lost", three, "d.c.b.a", x -> x.lose(3), BROKEN_1, 2, 3);
        broken("DIGESTS of ZONE 3 lost", three, "d.c.b.a", x -> x.lose(5), BROKEN_1, 3, 5);
    }

    private static final String PLAIN = "zone a;plain b.a;rec c.b.a a 1;";

    private static void terms3BrokenBy1WhereAPlainZoneIsNotShown() {
        broken("the LINK lost", PLAIN, "c.b.a", x -> x.lose(3), BROKEN_1, 2, 3);
        broken("the LINK with 16", PLAIN, "c.b.a", x -> alterAndSign(x, 3, 4, 24), BROKEN_1, 2, 3);
        broken("the LINK without 8", PLAIN, "c.b.a", x -> alterAndSign(x, 3, 4, 39), BROKEN_1, 2, 3);
        broken("the LINK with 16 and without 8", PLAIN, "c.b.a", x -> alterAndSign(x, 3, 4, 16), BROKEN_1, 2, 3);
        broken("the LINK of another OWNER", PLAIN, "c.b.a", x -> renameAndSign(x, 3, 0, "c.b.a"), BROKEN_1, 2, 3);
        broken("the LINK by the KEY of ZONE 0", PLAIN, "c.b.a", x -> alterAndSign(x, 3, 8, 10), BROKEN_1, 2, 3);
        broken("the LINK altered", PLAIN, "c.b.a", x -> x.alter(3, 4, 9), BROKEN_1, 2, 3);
    }

    private static void terms3BrokenBy1WhereASignedZoneIsShownPlain() {
        GapProofs x = told("zone a;plain c;");
        // The only LINK of ZONE 0 that a PROOF for what lies IN ZONE 1 could have is none: it has DIGESTS in its place.
        ask(x, "a", 0);
        x.lose(1);
        renameAndSign(x, 2, 0, "a");
        alterAndSign(x, 2, 4, 8);
        alterAndSign(x, 2, 8, 10);
        checkIs(x, "a SIGNED ZONE with a LINK of its own that tells 8", BROKEN_1, NONE, 1, 1);
    }

    // ---- INSECURE

    private static void terms3InsecureByTheLinkWith8AndWithout16() {
        for (int sorts : new int[] {8, 9, 8 + 7, 8 + 32, 8 + 32 + 7}) {
            GapProofs x = asked(PLAIN, "c.b.a", 0);
            alterAndSign(x, 3, 4, sorts);
            checkIs(x, "a PLAIN ZONE with SORTS " + sorts, INSECURE, NONE, 2, 3);
        }
    }

    private static void terms3InsecureWhateverNextIs() {
        GapProofs x = asked(PLAIN, "c.b.a", 0);
        renameAndSign(x, 3, 1, "z");
        checkIs(x, "a PLAIN ZONE with another NEXT", INSECURE, NONE, 2, 3);
    }

    private static void terms3InsecureEndsAtThePlainZone() {
        GapProofs x = asked("plain a;zone b.a;zone c.b.a;rec d.c.b.a a 1;", "d.c.b.a", 0);
        checkIs(x, "what lies below", INSECURE, NONE, 1, 1);
        row("ENTRIES", entries(x), 1);
        checkIs(x, "what lies below, again", INSECURE, NONE, 1, 0);
    }

    // ---- BROKEN by 2

    private static void terms3BrokenBy2WithoutKeysThatAreRight() {
        broken("KEYS lost", ONE, "b.a", x -> x.lose(2), BROKEN_2, 1, 2);
        broken("KEYS altered", ONE, "b.a", x -> x.alter(2, 6, 20), BROKEN_2, 1, 2);
        broken("KEYS with another MARK", ONE, "b.a", x -> x.alter(2, 9, (x.item(2, 9) + 9972) % 9973), BROKEN_2, 1, 2);
        broken("KEYS renamed", ONE, "b.a", x -> x.rename(2, 0), BROKEN_2, 1, 2);
        broken("KEYS by a KEY without a digest", ONE, "b.a", x -> {
            x.alter(2, 6, 20);
            return alterAndSign(x, 2, 8, 20);
        }, BROKEN_2, 1, 2);
        broken("KEYS by a KEY that is none of theirs", ONE, "b.a", x -> alterAndSign(x, 2, 5, 20), BROKEN_2, 1, 2);
    }

    private static void terms3BrokenBy2AtZone0WithoutTrust() {
        broken("KEYS of ZONE 0 lost", ONE, "b.a", x -> x.lose(0), BROKEN_2, 0, 0);
        broken("KEYS of ZONE 0 altered", ONE, "b.a", x -> x.alter(0, 7, 1), BROKEN_2, 0, 0);
        broken("TRUST of another KEY", ONE, "b.a", x -> {
            x.digest(0, 20);
            return x.undigest(0, 10);
        }, BROKEN_2, 0, 0);
        GapProofs x = told(ONE);
        x.digest(0, 20);
        x.publish(0, 20);
        x.activate(0, 20);
        ask(x, "b.a", 0);
        checkIs(x, "by the second KEY of TRUST", 0, 1, 1, 3);
    }

    private static void terms3BrokenBy2AtTheZoneWhereItIs() {
        String three = "zone a;zone b.a;zone c.b.a;rec d.c.b.a a 1;";
        broken("KEYS of ZONE 2 lost", three, "d.c.b.a", x -> x.lose(4), BROKEN_2, 2, 4);
        broken("KEYS of ZONE 3 lost", three, "d.c.b.a", x -> x.lose(6), BROKEN_2, 3, 6);
    }

    /** What an ITEM tells is taken as it tells it: OWNERS of DIGESTS and KEYS are not asked. */
    private static void terms3KeysOfAnotherOwnerAreTakenIfTheyAreRight() {
        GapProofs x = asked(ONE, "b.a", 0);
        renameAndSign(x, 1, 0, "z.z");
        renameAndSign(x, 2, 0, ".");
        checkIs(x, "DIGESTS and KEYS of other OWNERS", 0, 1, 1, 3);
    }

    // ---- FOUND, NO SORT

    private static void terms3FoundTellsAOfTheRecord() {
        for (int value : new int[] {0, 1, 99, 100, 999}) {
            GapProofs x = asked(ONE, "b.a", 0);
            alterAndSign(x, 3, 5, value);
            checkIs(x, "a RECORD of " + value, 0, value, 1, 3);
        }
    }

    private static void terms3FoundNeedsTheNameTheSortAndTheKey() {
        broken("of another SORT", ONE, "b.a", x -> alterAndSign(x, 3, 4, 1), BROKEN_3, 1, 3);
        broken("of another OWNER", ONE, "b.a", x -> renameAndSign(x, 3, 0, "b"), BROKEN_3, 1, 3);
        broken("by another KEY", ONE, "b.a", x -> alterAndSign(x, 3, 8, 10), BROKEN_3, 1, 3);
        broken("with another MARK", ONE, "b.a", x -> x.alter(3, 9, (x.item(3, 9) + 1) % 9973), BROKEN_3, 1, 3);
        broken("with B altered alone", ONE, "b.a", x -> x.alter(3, 6, 1), BROKEN_3, 1, 3);
        broken("lost", ONE, "b.a", x -> x.lose(3), BROKEN_3, 1, 3);
    }

    private static void terms3FoundByAnyKeyThatIsKnown() {
        GapProofs x = told(ONE);
        x.publish(1, 999);
        x.publish(1, 1);
        ask(x, "b.a", 0);
        for (int key : new int[] {1, 11, 999}) {
            alterAndSign(x, 3, 8, key);
            due("check() of a RECORD by " + key, x.check(), 0);
        }
        alterAndSign(x, 3, 8, 2);
        due("check() of a RECORD by 2", x.check(), BROKEN_3);
    }

    private static void terms3NoSortByTheLinkOfTheNameWithoutTheSort() {
        for (int sort = 0; sort < 3; sort++) {
            GapProofs x = asked("rec a a 1;rec a t 1;rec a m 1;", ".", sort);
            linkIs(x, 1, 0, ".", "a", 32, 10);
            due("check() without any SORT", x.check(), 1);
            alterAndSign(x, 1, 4, 63 - (1 << sort));
            due("check() with all others", x.check(), 1);
            alterAndSign(x, 1, 4, 1 << sort);
            due("check() with that one", x.check(), BROKEN_3);
        }
    }

    private static void terms3NoSortByALinkThatCoversToWhatIsBelowTheName() {
        GapProofs x = asked("rec c.b a 1;", "b", 0);
        linkIs(x, 1, 0, ".", "c.b", 32, 10);
        due("check()", x.check(), 1);
        renameAndSign(x, 1, 1, "b");
        due("NEXT is the NAME itself", x.check(), BROKEN_3);
        renameAndSign(x, 1, 1, "f.e.d.b");
        due("NEXT is far below", x.check(), 1);
        renameAndSign(x, 1, 0, "*.b");
        due("OWNER is behind the NAME", x.check(), BROKEN_3);
        renameAndSign(x, 1, 0, "zzz.a");
        due("OWNER is just ahead", x.check(), 1);
        alterAndSign(x, 1, 4, 63);
        due("whatever its SORTS are", x.check(), 1);
        renameAndSign(x, 1, 1, "c.bb");
        due("NEXT is below another one", x.check(), BROKEN_4);
    }

    /** By the RECORD, then by a LINK of the NAME, ahead of what the STAR tells. */
    private static void terms3FoundThenNoSortAreAheadOfWild() {
        String wild = "rec * a 5;rec b t 6;rec d t 7;";
        GapProofs x = asked(wild, "c", 0);
        due("check()", x.check(), 2);
        renameAndSign(x, 2, 0, "c");
        due("with a LINK of the NAME", x.check(), 1);
        renameAndSign(x, 1, 0, "c");
        due("with a RECORD of the NAME", x.check(), 0);
        due("checked(0)", x.checked(0), 5);
    }

    // ---- GAP, CLOSEST, STAR

    private static void terms3BrokenBy3WithoutALinkThatCovers() {
        String gap = "rec b a 5;rec d a 5;";
        broken("lost", gap, "c", x -> x.lose(1), BROKEN_3, 0, 1);
        broken("OWNER is the NAME, with the SORT", gap, "c", x -> {
            x.alter(1, 4, 1);
            return renameAndSign(x, 1, 0, "c");
        }, BROKEN_3, 0, 1);
        broken("NEXT is the NAME", gap, "c", x -> renameAndSign(x, 1, 1, "c"), BROKEN_3, 0, 1);
        broken("OWNER is behind", gap, "c", x -> renameAndSign(x, 1, 0, "ca"), BROKEN_3, 0, 1);
        broken("NEXT is ahead", gap, "c", x -> renameAndSign(x, 1, 1, "bz"), BROKEN_3, 0, 1);
        broken("by another KEY", gap, "c", x -> alterAndSign(x, 1, 8, 9), BROKEN_3, 0, 1);
    }

    private static void terms3CoversToTheEndIfNextIsTheApex() {
        GapProofs x = asked("zone a;rec b.a a 5;", "z.a", 0);
        linkIs(x, 3, 1, "b.a", "a", 1, 11);
        due("check()", x.check(), 4);
        // The ROOT is the APEX of ZONE 0, not of this ZONE.
        renameAndSign(x, 3, 1, ".");
        due("NEXT is the ROOT", x.check(), BROKEN_3);
        renameAndSign(x, 3, 1, "a");
        renameAndSign(x, 3, 0, "z.a");
        due("OWNER is the NAME, with the SORT", x.check(), BROKEN_3);
        renameAndSign(x, 3, 0, "a.z.a");
        due("OWNER is behind", x.check(), BROKEN_3);
        renameAndSign(x, 3, 0, "a");
        due("OWNER and NEXT are the APEX", x.check(), 4);
        linkIs(x, 3, 1, "a", "a", 1, 11);
    }

    private static void terms3BrokenBy4WithoutALinkThatCoversStar() {
        String gap = "rec b a 5;rec d a 5;";
        broken("lost", gap, "c", x -> x.lose(2), BROKEN_4, 0, 1);
        broken("OWNER is STAR, with the SORT", gap, "c", x -> {
            x.alter(2, 4, 1);
            return renameAndSign(x, 2, 0, "*");
        }, BROKEN_4, 0, 1);
        broken("NEXT is STAR", gap, "c", x -> renameAndSign(x, 2, 1, "*"), BROKEN_4, 0, 1);
        broken("by another KEY", gap, "c", x -> alterAndSign(x, 2, 8, 9), BROKEN_4, 0, 1);
    }

    private static void terms3WildThenWildNoSortThenNoName() {
        GapProofs x = asked("rec * a 5;rec b t 6;rec d t 7;", "c", 1);
        due("check() of WILD NO SORT", x.check(), 3);
        alterAndSign(x, 1, 4, 2);
        due("with the SORT", x.check(), BROKEN_4);
        renameAndSign(x, 1, 0, ".");
        due("with a LINK that COVERS STAR", x.check(), 4);
        x = asked("rec * a 5;rec b t 6;rec d t 7;", "c", 0);
        due("check() of WILD", x.check(), 2);
        alterAndSign(x, 1, 4, 1);
        due("of another SORT", x.check(), BROKEN_4);
        alterAndSign(x, 1, 4, 0);
        alterAndSign(x, 1, 5, 999);
        due("of a greater VALUE", x.check(), 2);
        due("checked(0)", x.checked(0), 999);
        renameAndSign(x, 2, 0, "*");
        due("with a LINK of STAR that COVERS", x.check(), 2);
        x.lose(1);
        due("without the RECORD, by that LINK", x.check(), 4 - 1);
    }

    /** Of OWNER and NEXT of GAP the one that reaches farther down tells CLOSEST. */
    private static void terms3ClosestIsByOwnerOrNextOfGap() {
        GapProofs x = asked("rec *.b.a a 5;", "q.b.a", 0);
        linkIs(x, 2, 0, "*.b.a", ".", 1, 10);
        due("by OWNER", x.check(), 2);
        renameAndSign(x, 2, 0, "a");
        // CLOSEST is a, then: the RECORD is that of another STAR, and GAP COVERS *.a itself.
        due("by OWNER that is ABOVE", x.check(), 4);
        renameAndSign(x, 2, 1, "z.b.a");
        due("by NEXT", x.check(), 2);
        renameAndSign(x, 2, 0, "b.a");
        renameAndSign(x, 2, 1, "z");
        due("by OWNER itself, ABOVE the NAME", x.check(), 2);
        renameAndSign(x, 2, 0, ".");
        due("by the ROOT alone", x.check(), 4);
        renameAndSign(x, 1, 0, "*");
        due("by the ROOT, with its STAR", x.check(), 2);
    }

    private static void terms3GapIsTheFirstLinkThatCovers() {
        GapProofs x = asked("rec *.a a 5;rec b.a t 1;rec d.a t 1;", "c.a", 2);
        linkIs(x, 1, 0, "*.a", "b.a", 1, 10);
        linkIs(x, 2, 0, "b.a", "d.a", 2, 10);
        due("check()", x.check(), 3);
        // LINK 1 COVERS the NAME, too, then: CLOSEST is the ROOT by it, and STAR is not shown.
        renameAndSign(x, 1, 0, "*");
        renameAndSign(x, 1, 1, ".");
        due("by the first", x.check(), 3);
        alterAndSign(x, 1, 4, 63);
        due("by the first, with the SORT", x.check(), BROKEN_4);
        x.lose(1);
        due("by the second", x.check(), BROKEN_4);
        renameAndSign(x, 1, 0, ".");
        due("by one that COVERS both", x.check(), 4);
    }

    private static void terms3ClosestOfANameOfOneLabelIsTheRoot() {
        GapProofs x = new GapProofs();
        ask(x, "a", 0);
        checkIs(x, "a", 4, NONE, 0, 1);
        ask(x, "*", 0);
        checkIs(x, "*", 4, NONE, 0, 0);
        ask(x, "d.c.b.a", 0);
        checkIs(x, "d.c.b.a", 4, NONE, 0, 0);
    }

    /** NEXT is the NAME and the APEX at once: CLOSEST is ABOVE the NAME, not the NAME itself. */
    private static void terms3ClosestIsAboveTheNameThoughItIsNext() {
        GapProofs x = asked("zone a;", "a", 0);
        linkIs(x, 3, 1, "a", "a", 32, 11);
        due("check()", x.check(), 1);
        renameAndSign(x, 3, 0, "*");
        due("with OWNER *, the STAR of the ROOT", x.check(), 3);
        alterAndSign(x, 3, 4, 1);
        due("with the SORT", x.check(), BROKEN_4);
        renameAndSign(x, 3, 0, ".");
        due("with OWNER that is the ROOT", x.check(), 4);
        renameAndSign(x, 3, 0, "b");
        due("with OWNER behind", x.check(), BROKEN_3);
    }

    // ---- which ITEMS are there

    /** KNOWN KEYS by ENTRIES need no ITEM ahead: what is looked for may be ITEM 0. */
    private static void terms3TheFirstItemCountsWhateverItIs() {
        GapProofs x = told("zone a;plain b;rec c.a a 3;rec e.d t 1;rec * m 4;");
        due("check() of the ROOT", askAndCheck(x, ".", 0), 1);
        String[] names = {".", "d", "b", "q", "q", "*.d"};
        int[] sorts = {0, 0, 0, 2, 0, 0}, outcomes = {1, 1, INSECURE, 2, 3, 4};
        for (int n = 0; n < names.length; n++) {
            ask(x, names[n], sorts[n]);
            x.lose(0);
            due("check() of " + names[n] + " without KEYS", x.check(), outcomes[n]);
        }
        ask(x, "c.a", 0);
        x.lose(0);
        checkIs(x, "c.a by DIGESTS as ITEM 0", 0, 3, 1, 2);
        x.lose(0);
        x.lose(0);
        checkIs(x, "c.a by the RECORD as ITEM 0", 0, 3, 1, 0);
    }

    /** What is lost is gone for the next CHECK, though the one before has seen it. */
    private static void lostBehindACheck(String text, String name, int sort, int... outcomes) {
        for (int i = 0; i < outcomes.length; i++) {
            GapProofs x = asked(text, name, sort);
            x.check();
            x.tick(10);
            x.lose(i);
            due("check() of " + name + " without ITEM " + i, x.check(), outcomes[i]);
        }
    }

    private static void terms3WhatIsLostBehindACheckIsGone() {
        lostBehindACheck(ONE, "b.a", 0, BROKEN_2, BROKEN_1, BROKEN_2, BROKEN_3);
        lostBehindACheck(ONE, "b.a", 1, BROKEN_2, BROKEN_1, BROKEN_2, BROKEN_3);
        lostBehindACheck("zone a;rec c.b.a a 1;", "b.a", 0, BROKEN_2, BROKEN_1, BROKEN_2, BROKEN_3);
        lostBehindACheck(PLAIN, "c.b.a", 0, BROKEN_2, BROKEN_1, BROKEN_2, BROKEN_1);
        lostBehindACheck("rec * a 5;rec b t 6;", "c", 0, BROKEN_2, BROKEN_4, BROKEN_3);
        lostBehindACheck("rec * a 5;rec b t 6;", "c", 1, BROKEN_2, BROKEN_4, BROKEN_3);
        lostBehindACheck("rec b a 5;rec d a 5;", "c", 0, BROKEN_2, BROKEN_3, BROKEN_4);
    }

    // ---- as it was made for, and as it is

    private static void terms3CheckIsForTheNameAndSortAsItWasMadeFor() {
        GapProofs x = asked("zone a;rec b.a a 1;rec b.a t 2;rec c t 3;", "b.a", 1);
        call(x, "c");
        checkIs(x, "b.a", 0, 2, 1, 3);
        call(x, "q.a");
        x.put(1, 9);
        checkIs(x, "b.a, again", 0, 2, 1, 0);
    }

    private static void terms3CheckOfAProofWithoutItems() {
        GapProofs x = asked("zone a;rec b.a a 1;", "b.a", 0);
        while (x.rule(4) > 0) x.lose(0);
        checkIs(x, "no ITEMS", BROKEN_2, NONE, 0, 0);
        askAndCheck(x, "b.a", 0);
        while (x.rule(4) > 0) x.lose(0);
        checkIs(x, "no ITEMS, with ENTRIES", BROKEN_3, NONE, 1, 0);
    }
}
