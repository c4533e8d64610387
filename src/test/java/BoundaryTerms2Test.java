/** The boundary cases of part 2 of the Terms: answers, items, what THE PROOF has and how long it stays. */
public final class BoundaryTerms2Test extends Bench {
    public static void main(String[] args) {
        finish("boundaries of the Terms, part 2: " + runAll(BoundaryTerms2Test.class) + " tests");
    }

    private static void keysAre(GapProofs x, int i, int zone, String apex, int a, int b, int c, int key) {
        itemIs(x, i, apex, null, 1, zone, 0, a, b, c, key);
    }

    private static void digestsAre(GapProofs x, int i, int zone, String apex, int a, int b, int key) {
        itemIs(x, i, apex, null, 0, zone, 0, a, b, 0, key);
    }

    // ---- the ANSWER

    private static void terms2Answer0FoundWhereThereIsARecord() {
        GapProofs x = told("zone a;plain *;rec . a 0;rec a t 99;rec d.c.b.a m 1;rec * a 7;rec *.a a 8;");
        answerIs(x, ".", 0, 0, 0);
        answerIs(x, "a", 1, 0, 99);
        answerIs(x, "d.c.b.a", 2, 0, 1);
        answerIs(x, "*", 0, 0, 7);
        answerIs(x, "*.a", 0, 0, 8);
    }

    private static void terms2Answer1NoSortOfAnOwner() {
        GapProofs x = told("zone a;rec b.a t 5;");
        answerIs(x, "b.a", 0, 1, NONE);
        answerIs(x, "b.a", 2, 1, NONE);
        answerIs(x, "a", 1, 1, NONE);
        answerIs(x, ".", 1, 1, NONE);
    }

    private static void terms2Answer1NoSortOfWhatIsAboveAnOwner() {
        GapProofs x = told("zone d.c;rec f.e.b.a t 5;rec x.d.c t 6;");
        for (int sort = 0; sort < 3; sort++) {
            answerIs(x, "a", sort, 1, NONE);
            answerIs(x, "b.a", sort, 1, NONE);
            answerIs(x, "e.b.a", sort, 1, NONE);
            answerIs(x, "c", sort, 1, NONE);
        }
    }

    /** What EXISTS is not answered by a STAR beside it. */
    private static void terms2Answer1NoSortThoughThereIsAStar() {
        GapProofs x = told("rec *.a t 5;rec b.a a 1;rec d.c.a a 2;rec * t 6;");
        answerIs(x, "b.a", 1, 1, NONE);
        answerIs(x, "c.a", 1, 1, NONE);
        answerIs(x, "a", 1, 1, NONE);
        answerIs(x, "q.a", 1, 2, 5);
    }

    private static void terms2Answer2WildByTheStarOfClosest() {
        GapProofs x = told("zone a;rec *.a t 5;rec *.c.b.a m 0;rec *.* a 9;rec * a 8;");
        answerIs(x, "q.a", 1, 2, 5);
        answerIs(x, "s.r.q.a", 1, 2, 5);
        answerIs(x, "q.c.b.a", 2, 2, 0);
        answerIs(x, "q.*", 0, 2, 9);
        answerIs(x, "q", 0, 2, 8);
        // STAR below a STAR is one of its own, and there is none below that.
        answerIs(x, "q.*.*", 0, 4, NONE);
    }

    private static void terms2Answer4ThoughAnUpperStarIsThere() {
        GapProofs x = told("rec * a 5;rec b.a t 1;");
        answerIs(x, "q", 0, 2, 5);
        answerIs(x, "r.q", 0, 2, 5);
        answerIs(x, "q.a", 0, 4, NONE);
        answerIs(x, "q.b.a", 0, 4, NONE);
    }

    private static void terms2Answer4ThoughAStarIsInTheParent() {
        GapProofs x = told("zone a;rec * a 5;");
        answerIs(x, "q", 0, 2, 5);
        answerIs(x, "a", 0, 1, NONE);
        answerIs(x, "q.a", 0, 4, NONE);
    }

    private static void terms2Answer3WhereStarHasAnotherSort() {
        GapProofs x = told("rec *.a t 5;rec *.b a 5;rec *.b m 5;");
        answerIs(x, "q.a", 0, 3, NONE);
        answerIs(x, "q.a", 2, 3, NONE);
        answerIs(x, "q.b", 1, 3, NONE);
        answerIs(x, "q.b", 0, 2, 5);
    }

    /** STAR is the APEX of a ZONE below, SIGNED or PLAIN: its RECORD does not lie IN that ZONE. */
    private static void terms2Answer3WhereStarDoesNotLieInThatZone() {
        for (String way : new String[] {"zone", "plain"}) {
            GapProofs x = told("zone a;" + way + " *.a;rec *.a a 4;rec x.*.a t 6;");
            answerIs(x, "q.a", 0, 3, NONE);
            answerIs(x, "q.a", 1, 3, NONE);
            answerIs(x, "r.q.a", 0, 3, NONE);
            answerIs(x, "*.a", 0, 0, 4);
            answerIs(x, "*.a", 1, 1, NONE);
            answerIs(x, "x.*.a", 1, 0, 6);
            answerIs(x, "y.*.a", 1, 4, NONE);
        }
    }

    /** STAR EXISTS, but is no OWNER. */
    private static void terms2Answer4WhereStarIsAboveAnOwnerAlone() {
        GapProofs x = told("zone b.*.c;rec y.*.a a 1;");
        answerIs(x, "q.a", 0, 4, NONE);
        answerIs(x, "*.a", 0, 1, NONE);
        answerIs(x, "q.c", 0, 4, NONE);
        answerIs(x, "y.q.a", 0, 4, NONE);
    }

    private static void terms2Answer4WhereThereIsNothing() {
        GapProofs x = new GapProofs();
        answerIs(x, "a", 0, 4, NONE);
        answerIs(x, "*", 1, 4, NONE);
        answerIs(x, "d.c.b.a", 2, 4, NONE);
        answerIs(x, ".", 0, 1, NONE);
    }

    private static void terms2StarOfAClosestOf3LabelsHas4() {
        GapProofs x = told("zone c.b.a;rec *.c.b.a a 3;rec *.f.e.d t 4;");
        answerIs(x, "q.c.b.a", 0, 2, 3);
        answerIs(x, "q.c.b.a", 1, 3, NONE);
        answerIs(x, "q.f.e.d", 1, 2, 4);
        call(x, "q.c.b.a");
        due("LABELS of CLOSEST", x.name(6), 3);
    }

    // ---- THE PROOF by the ANSWER

    private static final String DEEP = "zone a;zone b.a;rec e.b.a t 5;rec *.g.b.a m 7;rec i.h.b.a a 9;rec k.b.a a 3;";

    private static GapProofs deep(String name, int sort, int items) {
        GapProofs x = told(DEEP);
        due("ask(" + sort + ") of " + name, ask(x, name, sort), items);
        keysAre(x, 0, 0, ".", 10, 0, 0, 10);
        digestsAre(x, 1, 1, "a", 11, 0, 10);
        keysAre(x, 2, 1, "a", 11, 0, 0, 11);
        digestsAre(x, 3, 2, "b.a", 12, 0, 11);
        keysAre(x, 4, 2, "b.a", 12, 0, 0, 12);
        return x;
    }

    private static void terms2ProofOfFoundIsTheRecord() {
        recordIs(deep("e.b.a", 1, 6), 5, 2, "e.b.a", 1, 5, 12);
    }

    private static void terms2ProofOfNoSortIsTheLinkOfAnOwner() {
        linkIs(deep("e.b.a", 0, 6), 5, 2, "e.b.a", "*.g.b.a", 2, 12);
        linkIs(deep("b.a", 0, 6), 5, 2, "b.a", "e.b.a", 32, 12);
    }

    private static void terms2ProofOfNoSortElseIsTheLinkThatCovers() {
        linkIs(deep("g.b.a", 0, 6), 5, 2, "e.b.a", "*.g.b.a", 2, 12);
        linkIs(deep("h.b.a", 0, 6), 5, 2, "*.g.b.a", "i.h.b.a", 4, 12);
    }

    private static void terms2ProofOfWildIsTheRecordOfStarAndTheLinkThatCovers() {
        GapProofs x = deep("q.g.b.a", 2, 7);
        recordIs(x, 5, 2, "*.g.b.a", 2, 7, 12);
        linkIs(x, 6, 2, "*.g.b.a", "i.h.b.a", 4, 12);
        x = told("rec * a 5;rec b t 6;rec d t 7;");
        due("ask(0) of c", ask(x, "c", 0), 3);
        recordIs(x, 1, 0, "*", 0, 5, 10);
        linkIs(x, 2, 0, "b", "d", 2, 10);
    }

    private static void terms2ProofOfWildNoSortIsTheLinkOfStarAndTheOneThatCovers() {
        GapProofs x = told("rec * a 5;rec b t 6;rec d t 7;");
        due("ask(1) of c", ask(x, "c", 1), 3);
        linkIs(x, 1, 0, "*", "b", 1, 10);
        linkIs(x, 2, 0, "b", "d", 2, 10);
    }

    private static void terms2ProofOfWildNoSortHasOneLinkTwiceIfItIsBoth() {
        GapProofs x = deep("q.g.b.a", 0, 7);
        linkIs(x, 5, 2, "*.g.b.a", "i.h.b.a", 4, 12);
        linkIs(x, 6, 2, "*.g.b.a", "i.h.b.a", 4, 12);
    }

    private static void terms2ProofOfWildNoSortWhereStarIsAZoneBelow() {
        String[] ways = {"zone", "plain"};
        for (int n = 0; n < 2; n++) {
            GapProofs x = told(ways[n] + " *;rec * a 4;rec b t 6;");
            due("ask(0) of c", ask(x, "c", 0), 3);
            linkIs(x, 1, 0, "*", "b", n == 0 ? 24 : 8, 10);
            linkIs(x, 2, 0, "b", ".", 2, 10);
        }
    }

    private static void terms2ProofOfNoNameIsTheLinksThatCoverTheNameAndStar() {
        GapProofs x = deep("j.b.a", 0, 7);
        linkIs(x, 5, 2, "i.h.b.a", "k.b.a", 1, 12);
        linkIs(x, 6, 2, "b.a", "e.b.a", 32, 12);
        x = deep("z.b.a", 2, 7);
        linkIs(x, 5, 2, "k.b.a", "b.a", 1, 12);
        linkIs(x, 6, 2, "b.a", "e.b.a", 32, 12);
    }

    private static void terms2ProofOfNoNameIsOneLinkThatCoversBoth() {
        linkIs(deep("d.b.a", 0, 6), 5, 2, "b.a", "e.b.a", 32, 12);
        linkIs(deep("*.b.a", 0, 6), 5, 2, "b.a", "e.b.a", 32, 12);
        linkIs(deep("q.e.b.a", 0, 6), 5, 2, "e.b.a", "*.g.b.a", 2, 12);
        linkIs(deep("q.k.b.a", 0, 6), 5, 2, "k.b.a", "b.a", 1, 12);
    }

    // ---- THE PROOF by the ZONES

    private static void terms2ProofInZone0BeginsWithItsKeysAlone() {
        GapProofs x = new GapProofs();
        due("ask(0) of the ROOT", x.ask(0), 2);
        keysAre(x, 0, 0, ".", 10, 0, 0, 10);
        linkIs(x, 1, 0, ".", ".", 32, 10);
    }

    private static void terms2ProofThrough4ZonesHas9ItemsAtMost() {
        GapProofs x = told("zone a;zone b.a;zone c.b.a;rec d.c.b.a a 1;");
        due("ask(0) of e.c.b.a", ask(x, "e.c.b.a", 0), 9);
        row("kinds", kinds(x), 1, 10, 11, 20, 21, 30, 31, 33, 33);
        linkIs(x, 7, 3, "d.c.b.a", "c.b.a", 1, 13);
        linkIs(x, 8, 3, "c.b.a", "d.c.b.a", 32, 13);
        due("item(9, 0)", x.item(9, 0), NONE);
        due("check()", x.check(), 4);
    }

    /** Along PARENTS: ZONES beside the way, and those told in another order. */
    private static void terms2ProofGoesAlongParentsAlone() {
        GapProofs x = told("zone c.b.a;zone d;zone a;rec e.c.b.a a 1;");
        due("ask(0) of e.c.b.a", ask(x, "e.c.b.a", 0), 6);
        row("kinds", kinds(x), 1, 30, 31, 10, 11, 12);
        digestsAre(x, 1, 3, "a", 13, 0, 10);
        keysAre(x, 2, 3, "a", 13, 0, 0, 13);
        digestsAre(x, 3, 1, "c.b.a", 11, 0, 13);
        keysAre(x, 4, 1, "c.b.a", 11, 0, 0, 11);
        recordIs(x, 5, 1, "e.c.b.a", 0, 1, 11);
    }

    private static void terms2ProofOfAPlainZoneIsTheLinkOfItsApexInItsParent() {
        String text = "zone a;plain b.a;rec b.a t 1;rec c.b.a a 2;rec d.a a 3;";
        String[] names = {"b.a", "c.b.a", "z.b.a", "b.a"};
        for (int n = 0; n < 4; n++) {
            GapProofs x = told(text);
            due("ask(" + n % 3 + ") of " + names[n], ask(x, names[n], n % 3), 4);
            row("kinds of " + names[n], kinds(x), 1, 10, 11, 13);
            linkIs(x, 3, 1, "b.a", "d.a", 8, 11);
        }
    }

    private static void terms2ProofBelowAPlainZoneEndsThere() {
        GapProofs x = told("plain a;zone b.a;plain c.b.a;rec d.c.b.a a 1;rec e.b.a a 2;");
        due("ask(0) of d.c.b.a", ask(x, "d.c.b.a", 0), 2);
        keysAre(x, 0, 0, ".", 10, 0, 0, 10);
        linkIs(x, 1, 0, "a", ".", 8, 10);
        due("ask(0) of e.b.a", ask(x, "e.b.a", 0), 2);
        linkIs(x, 1, 0, "a", ".", 8, 10);
        due("check()", x.check(), 5);
    }

    private static void terms2ProofWithoutDigestsHasTheItemAllTheSame() {
        GapProofs x = told("zone a;rec b.a a 1;");
        due("undigest(1, 11)", x.undigest(1, 11), 0);
        due("ask(0) of b.a", ask(x, "b.a", 0), 4);
        digestsAre(x, 1, 1, "a", 0, 0, 10);
        keysAre(x, 2, 1, "a", 11, 0, 0, 11);
    }

    private static void terms2KeysAndDigestsAreByNumberTheLeastFirst() {
        GapProofs x = told("zone a;rec b.a a 1;");
        x.publish(1, 999);
        x.publish(1, 1);
        x.digest(1, 2);
        x.publish(0, 9);
        x.digest(0, 700);
        due("ask(0) of b.a", ask(x, "b.a", 0), 4);
        keysAre(x, 0, 0, ".", 9, 10, 0, 10);
        digestsAre(x, 1, 1, "a", 2, 11, 10);
        keysAre(x, 2, 1, "a", 1, 11, 999, 11);
    }

    private static void terms2DigestsAreSignedByTheActiveKeyOfTheParent() {
        GapProofs x = told("zone a;zone b.a;rec c.b.a a 1;");
        x.publish(0, 20);
        x.activate(0, 20);
        x.publish(1, 21);
        x.activate(1, 21);
        x.publish(2, 22);
        x.activate(2, 22);
        due("ask(0) of c.b.a", ask(x, "c.b.a", 0), 6);
        keysAre(x, 0, 0, ".", 10, 20, 0, 20);
        digestsAre(x, 1, 1, "a", 11, 0, 20);
        keysAre(x, 2, 1, "a", 11, 21, 0, 21);
        digestsAre(x, 3, 2, "b.a", 12, 0, 21);
        keysAre(x, 4, 2, "b.a", 12, 22, 0, 22);
        recordIs(x, 5, 2, "c.b.a", 0, 1, 22);
    }

    // ---- CONTENT and MARK

    private static void terms2ContentOfTheLongestNames() {
        GapProofs x = told("zone zzz.yyy.zzz;rec zzz.zzz.yyy.zzz a 99;");
        ask(x, "zzz.zzz.yyy.zzz", 1);
        linkIs(x, 3, 1, "zzz.zzz.yyy.zzz", "zzz.yyy.zzz", 1, 11);
        ask(x, "zzz.zzz.yyy.zzz", 0);
        recordIs(x, 3, 1, "zzz.zzz.yyy.zzz", 0, 99, 11);
    }

    private static void terms2ContentOfAStarIs27() {
        GapProofs x = told("rec *.*.*.* t 1;");
        ask(x, "*.*.*.*", 1);
        due("CONTENT", x.item(1, 10), mixed(2, 0, 4, 27, 0, 27, 0, 27, 0, 27, 0, 0, 1, 1, 0, 0));
    }

    private static void terms2ContentWithoutANextHasThatOfTheRoot() {
        GapProofs x = new GapProofs();
        x.ask(0);
        due("CONTENT of KEYS", x.item(0, 10), mixed(1, 0, 0, 0, 0, 10, 0, 0));
        due("CONTENT of the LINK to the ROOT", x.item(1, 10), mixed(3, 0, 0, 0, 32, 0, 0, 0));
    }

    private static void terms2MarkByTheLeastAndTheGreatestKey() {
        GapProofs x = new GapProofs();
        x.ask(0);
        int content = mixed(1, 0, 0, 0, 0, 10, 0, 0);
        for (int key : new int[] {1, 999}) {
            x.alter(0, 8, key);
            due("MARK by " + key, x.sign(0), (int) ((content * (2L * key + 1) + key) % 9973));
        }
    }

    // ---- THE PROOF stays

    private static final String STAYS = "zone a;rec b.a t 5;rec d.a t 6;span 20;";

    private static GapProofs asked() {
        GapProofs x = told(STAYS);
        x.tick(3);
        due("ask(0) of c.a", ask(x, "c.a", 0), 5);
        return x;
    }

    private static void stays(String what, Call c) {
        GapProofs x = asked();
        c.on(x);
        row(what + " leaves THE PROOF", with(new int[] {x.rule(4)}, itemsOf(x)), with(new int[] {5}, itemsOf(asked())));
        due("check() behind " + what, x.check(), 4);
    }

    private static int[] itemsOf(GapProofs x) {
        int[] r = {};
        for (int i = 0; i < x.rule(4); i++) r = with(with(r, itemRow(x, i)), x.item(i, 9), x.item(i, 10));
        return r;
    }

    private static void terms2ProofStaysWhateverRecordsThereAre() {
        stays("put(0, 9), a RECORD of what it was asked for", x -> x.put(0, 9));
        stays("remove", x -> {
            call(x, "d.a");
            return x.remove(1);
        });
        stays("a STAR", x -> {
            call(x, "*.a");
            return x.put(0, 1);
        });
    }

    private static void terms2ProofStaysWhateverKeysThereAre() {
        stays("publish", x -> x.publish(1, 20));
        stays("activate", x -> {
            x.publish(1, 20);
            x.activate(1, 20);
            return x.retire(1, 11);
        });
        stays("digest", x -> x.digest(1, 20));
        stays("undigest", x -> x.undigest(1, 11));
        stays("activate of ZONE 0", x -> {
            x.publish(0, 20);
            x.activate(0, 20);
            return x.retire(0, 10);
        });
        stays("digest of ZONE 0", x -> x.digest(0, 20));
    }

    private static void terms2ProofStaysWhateverElseChanges() {
        stays("tick", x -> x.tick(1000000000));
        stays("label", x -> x.label(1, 0, 0));
        stays("up", x -> x.up(2));
        stays("owner", x -> x.owner(0, 0));
        stays("keep", x -> x.keep(0));
        stays("feed", x -> x.feed('z'));
        stays("a text with a FAULT", x -> tell(x, "zone q;rec c.a a 5;zone q;"));
        stays("check()", GapProofs::check);
        stays("ask(3) that is refused", x -> x.ask(3));
    }

    private static void terms2ProofStaysWithWhenItWasMade() {
        GapProofs x = asked();
        x.tick(4);
        due("check()", x.check(), 4);
        for (int i = 0; i < 3; i++) due("in how many minutes ENTRY " + i + " ends", x.entry(i, 6), 16);
    }

    private static void terms2ProofStaysWithTheNameAndSortItWasMadeFor() {
        GapProofs x = told(STAYS);
        ask(x, "b.a", 1);
        call(x, "d.a");
        due("check()", x.check(), 0);
        due("checked(0)", x.checked(0), 5);
        due("checked(1)", x.checked(1), 1);
    }

    private static void terms2ProofEndsByATextThatIsTaken() {
        GapProofs x = asked();
        due("text()", x.text(), 0);
        due("rule(4)", x.rule(4), NONE);
        due("item(0, 0)", x.item(0, 0), STATE);
        due("check()", x.check(), STATE);
    }

    private static void terms2ProofIsMadeAnewByAsk() {
        GapProofs x = asked();
        x.alter(0, 5, 77);
        x.lose(4);
        x.rename(3, 1);
        x.tick(2);
        call(x, "c.a");
        due("ask(0)", x.ask(0), 5);
        row("THE PROOF anew", itemsOf(x), itemsOf(asked()));
        due("check()", x.check(), 4);
        due("in how many minutes ENTRY 0 ends", x.entry(0, 6), 20);
    }
}
