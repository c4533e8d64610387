/** The boundary cases of promises 24 to 30: the clock, KEYS that are out, digests, what stands against a KEY, ACTIVE ones. */
public final class BoundaryPromises24To30Test extends Bench {
    public static void main(String[] args) {
        finish("boundaries of promises 24 to 30: " + runAll(BoundaryPromises24To30Test.class) + " tests");
    }

    private static final String TEXT = "zone a;plain p;zone b.a;rec c.a t 5;span 5;";
    private static final int LAST = 2147483647;

    interface OfKey { int on(GapProofs x, int z, int k); }

    private static GapProofs atClock(String text, int clock) {
        GapProofs x = told(text);
        int left = clock;
        while (left > 0) {
            int n = Math.min(left, 1000000000);
            x.tick(n);
            left -= n;
        }
        due("CLOCK", x.rule(2), clock);
        return x;
    }

    private static void badZonesAndKeys(String call, OfKey c) {
        GapProofs x = told(TEXT);
        for (int z : new int[] {-1, 4, Integer.MIN_VALUE, Integer.MAX_VALUE}) due(call + "(" + z + ", 20)", c.on(x, z, 20), BAD);
        for (int z = 0; z < 4; z++)
            for (int k : new int[] {0, 1000, -1, Integer.MIN_VALUE, Integer.MAX_VALUE}) due(call + "(" + z + ", " + k + ")", c.on(x, z, k), BAD);
        due(call + "(1, 20) where there is ZONE 0 alone", c.on(new GapProofs(), 1, 20), BAD);
    }

    private static void plainIsState(String call, OfKey c) {
        for (int k : new int[] {1, 12, 999}) due(call + "(2, " + k + ")", c.on(told(TEXT), 2, k), STATE);
    }

    private static void keysAre(GapProofs x, int z, int active, int... keys) {
        row("KEYS of ZONE " + z, keyRow(x, z, 0), keys);
        due("the ACTIVE KEY of ZONE " + z, x.zone(z, 7), active);
    }

    // ---- 24

    private static void promise24TickOf0AndBelowIsBad() {
        GapProofs x = told(TEXT);
        for (int n : new int[] {0, -1, -1000000000, Integer.MIN_VALUE}) due("tick(" + n + ")", x.tick(n), BAD);
        due("CLOCK", x.rule(2), 0);
    }

    private static void promise24TickOf1AndOf1000000000() {
        GapProofs x = told(TEXT);
        due("tick(1)", x.tick(1), 1);
        due("tick(1000000000)", x.tick(1000000000), 1000000001);
        due("CLOCK", x.rule(2), 1000000001);
    }

    private static void promise24TickAbove1000000000IsBad() {
        GapProofs x = told(TEXT);
        for (int n : new int[] {1000000001, 2000000000, Integer.MAX_VALUE}) due("tick(" + n + ")", x.tick(n), BAD);
        due("CLOCK", x.rule(2), 0);
    }

    private static void promise24TickTo2147483647AndNotBeyond() {
        GapProofs x = atClock(TEXT, LAST - 1);
        due("tick(2)", x.tick(2), FULL);
        due("tick(1000000000)", x.tick(1000000000), FULL);
        due("tick(1)", x.tick(1), LAST);
        due("tick(1) again", x.tick(1), FULL);
        due("CLOCK", x.rule(2), LAST);
    }

    private static void promise24TickBadIsAheadOfFull() {
        GapProofs x = atClock(TEXT, LAST);
        for (int n : new int[] {0, -1, 1000000001, Integer.MAX_VALUE}) due("tick(" + n + ")", x.tick(n), BAD);
    }

    private static void promise24EntryAtTheLastClockLastsForSpan() {
        for (int span : new int[] {1, 60}) {
            GapProofs x = atClock("span " + span + ";", LAST);
            x.ask(0);
            due("check()", x.check(), 1);
            row("ENTRY 0", entryRow(x, 0), 0, 1, 10, 0, 0, 1, span);
            due("rule(6)", x.rule(6), 1);
            due("check() again", x.check(), 1);
            due("what came by it", x.checked(2), 0);
        }
    }

    private static void promise24EntryJustAheadOfTheLastClock() {
        GapProofs x = atClock("span 5;", LAST - 5);
        x.ask(0);
        x.check();
        x.tick(4);
        row("ENTRY 0 that ends at the last CLOCK", entryRow(x, 0), 0, 1, 10, 0, 0, 1, 1);
        x.tick(1);
        row("ENTRY 0 then", entryRow(x, 0), 0, 1, 10, 0, 0, 0, 0);
        x = atClock("span 5;", LAST - 4);
        x.ask(0);
        x.check();
        x.tick(4);
        row("ENTRY 0 that ends beyond", entryRow(x, 0), 0, 1, 10, 0, 0, 1, 1);
    }

    private static void promise24KeyThatIsOutAtTheLastClockIsNotForSpan() {
        GapProofs x = atClock("zone a;span 1;", LAST);
        x.publish(1, 20);
        due("why(1, 20)", x.why(1, 20), 3);
        x = atClock("zone a;span 1;", LAST - 1);
        x.publish(1, 20);
        x.tick(1);
        due("why(1, 20) that is for SPAN", x.why(1, 20), 4);
        x.digest(1, 20);
        due("why(1, 20) with a digest of now", x.why(1, 20), 5);
        due("activate(1, 20)", x.activate(1, 20), 11);
        // All of time is not too long, either.
        x = told("zone a;span 60;");
        x.publish(1, 20);
        x.digest(1, 20);
        x.tick(1000000000);
        x.tick(1000000000);
        x.tick(147483647);
        due("why(1, 20) of what is out since 0", x.why(1, 20), 0);
    }

    // ---- 25

    private static void promise25PublishOfNoZoneOrKeyIsBad() {
        badZonesAndKeys("publish", GapProofs::publish);
    }

    private static void promise25PublishTheLeastAndTheGreatestKey() {
        GapProofs x = told(TEXT);
        due("publish(1, 1)", x.publish(1, 1), 2);
        due("publish(1, 999)", x.publish(1, 999), 3);
        keysAre(x, 1, 11, 1, 11, 999);
        keysAre(x, 3, 13, 13);
    }

    private static void promise25PublishTheThirdIsTakenTheFourthIsFull() {
        for (int z : new int[] {0, 1, 3}) {
            GapProofs x = told(TEXT);
            due("the second", x.publish(z, 20), 2);
            due("the third", x.publish(z, 5), 3);
            due("the fourth", x.publish(z, 30), FULL);
            keysAre(x, z, 10 + z, 5, 10 + z, 20);
            due("retire", x.retire(z, 5), 2);
            due("the third again", x.publish(z, 30), 3);
        }
    }

    private static void promise25PublishInAPlainZoneIsState() {
        plainIsState("publish", GapProofs::publish);
    }

    private static void promise25PublishOfAKeyThatIsOutIsState() {
        GapProofs x = told(TEXT);
        due("publish(1, 11) that is ACTIVE", x.publish(1, 11), STATE);
        x.publish(1, 20);
        x.tick(3);
        due("publish(1, 20)", x.publish(1, 20), STATE);
        row("KEYS since", keyRow(x, 1, 2), 0, 0);
        x.publish(1, 30);
        due("publish(1, 20), one of three: ahead of FULL", x.publish(1, 20), STATE);
        due("publish(1, 10), a KEY of another ZONE", told(TEXT).publish(1, 10), 2);
    }

    private static void promise25PublishIsFromNowOn() {
        GapProofs x = told(TEXT);
        x.tick(7);
        x.publish(1, 5);
        row("KEYS since", keyRow(x, 1, 2), 7, 0);
        x.tick(1);
        x.retire(1, 5);
        x.tick(1);
        x.publish(1, 5);
        row("KEYS since, out anew", keyRow(x, 1, 2), 9, 0);
        row("DIGESTS", keyRow(x, 1, 1), 11);
    }

    // ---- 26

    private static void promise26RetireOfNoZoneOrKeyIsBad() {
        badZonesAndKeys("retire", GapProofs::retire);
    }

    private static void promise26RetireInAPlainZoneIsState() {
        plainIsState("retire", GapProofs::retire);
    }

    private static void promise26RetireOfAKeyThatIsNotOutIsState() {
        GapProofs x = told(TEXT);
        due("retire(1, 20)", x.retire(1, 20), STATE);
        due("retire(1, 10), a KEY of another ZONE", x.retire(1, 10), STATE);
        x.digest(1, 20);
        due("retire(1, 20) with a digest alone", x.retire(1, 20), STATE);
        x.publish(1, 20);
        due("retire(1, 20) that is out", x.retire(1, 20), 1);
        due("retire(1, 20) again", x.retire(1, 20), STATE);
    }

    private static void promise26RetireOfTheActiveKeyIsState() {
        for (int z : new int[] {0, 1, 3}) {
            GapProofs x = told(TEXT);
            due("the only one", x.retire(z, 10 + z), STATE);
            x.publish(z, 20);
            due("one of two", x.retire(z, 10 + z), STATE);
            x.activate(z, 20);
            due("the other one", x.retire(z, 20), STATE);
            due("what is ACTIVE no more", x.retire(z, 10 + z), 1);
            keysAre(x, z, 20, 20);
            due("the only one again", x.retire(z, 20), STATE);
        }
    }

    private static void promise26RetireTheFirstTheLastAndOneBetween() {
        int[][] left = {{11, 20}, {5, 11}};
        int[] retired = {5, 20};
        for (int n = 0; n < 2; n++) {
            GapProofs x = told(TEXT);
            x.publish(1, 5);
            x.tick(2);
            x.publish(1, 20);
            due("retire(1, " + retired[n] + ")", x.retire(1, retired[n]), 2);
            keysAre(x, 1, 11, left[n]);
            row("KEYS since", keyRow(x, 1, 2), 0, n == 0 ? 2 : 0);
        }
        GapProofs x = told(TEXT);
        x.publish(1, 5);
        x.publish(1, 20);
        x.activate(1, 20);
        due("retire(1, 11), the one between", x.retire(1, 11), 2);
        keysAre(x, 1, 20, 5, 20);
        row("the digest stays", keyRow(x, 1, 1), 11);
    }

    // ---- 27

    private static void promise27DigestOfNoZoneOrKeyIsBad() {
        badZonesAndKeys("digest", GapProofs::digest);
    }

    private static void promise27DigestInAPlainZoneIsState() {
        plainIsState("digest", GapProofs::digest);
    }

    private static void promise27DigestTheSecondIsTakenTheThirdIsFull() {
        for (int z : new int[] {0, 1, 3}) {
            GapProofs x = told(TEXT);
            due("the second", x.digest(z, 1), 2);
            due("the third", x.digest(z, 999), FULL);
            row("DIGESTS", keyRow(x, z, 1), 1, 10 + z);
            due("undigest", x.undigest(z, 10 + z), 1);
            due("the second again", x.digest(z, 999), 2);
            row("DIGESTS", keyRow(x, z, 1), 1, 999);
            row("KEYS are as they were", keyRow(x, z, 0), 10 + z);
        }
    }

    private static void promise27DigestThatIsThereIsState() {
        GapProofs x = told(TEXT);
        due("digest(1, 11)", x.digest(1, 11), STATE);
        due("digest(0, 10) of TRUST", x.digest(0, 10), STATE);
        x.digest(1, 20);
        x.tick(3);
        due("digest(1, 20), one of two: ahead of FULL", x.digest(1, 20), STATE);
        row("DIGESTS since", keyRow(x, 1, 3), 0, 0);
    }

    private static void promise27DigestIsFromNowOn() {
        GapProofs x = told(TEXT);
        x.tick(4);
        x.digest(1, 20);
        x.tick(1);
        x.digest(0, 5);
        row("DIGESTS since", keyRow(x, 1, 3), 0, 4);
        row("TRUST since", keyRow(x, 0, 3), 5, 0);
        x.undigest(1, 20);
        x.tick(1);
        x.digest(1, 20);
        row("DIGESTS since, there anew", keyRow(x, 1, 3), 0, 6);
    }

    private static void promise27DigestOfAKeyThatIsNotOut() {
        GapProofs x = told(TEXT);
        due("digest(1, 20)", x.digest(1, 20), 2);
        due("zone(1, 5)", x.zone(1, 5), 1);
        due("why(1, 20)", x.why(1, 20), 2);
    }

    // ---- 28

    private static void promise28UndigestOfNoZoneOrKeyIsBad() {
        badZonesAndKeys("undigest", GapProofs::undigest);
    }

    private static void promise28UndigestInAPlainZoneIsState() {
        plainIsState("undigest", GapProofs::undigest);
    }

    private static void promise28UndigestThatIsNotThereIsState() {
        GapProofs x = told(TEXT);
        x.publish(1, 20);
        due("undigest(1, 20) that is out alone", x.undigest(1, 20), STATE);
        x.digest(1, 20);
        due("undigest(1, 20)", x.undigest(1, 20), 1);
        due("undigest(1, 20) again", x.undigest(1, 20), STATE);
        due("undigest(0, 11) of TRUST", x.undigest(0, 11), STATE);
    }

    private static void promise28UndigestTheLastOneOfAnotherZoneGoes() {
        GapProofs x = told(TEXT);
        due("undigest(1, 11)", x.undigest(1, 11), 0);
        row("DIGESTS", keyRow(x, 1, 1));
        due("undigest(1, 11) of none", x.undigest(1, 11), STATE);
        due("digest(1, 11) again", x.digest(1, 11), 1);
        keysAre(x, 1, 11, 11);
    }

    private static void promise28UndigestTheLastOneOfZone0IsState() {
        GapProofs x = told(TEXT);
        due("undigest(0, 10)", x.undigest(0, 10), STATE);
        x.digest(0, 5);
        due("undigest(0, 10), one of two", x.undigest(0, 10), 1);
        due("undigest(0, 5), the last one", x.undigest(0, 5), STATE);
        row("TRUST", keyRow(x, 0, 1), 5);
        x.digest(0, 10);
        due("undigest(0, 5), one of two", x.undigest(0, 5), 1);
        row("TRUST", keyRow(x, 0, 1), 10);
    }

    // ---- 29

    private static void promise29WhyOfNoZoneOrKeyIsBad() {
        badZonesAndKeys("why", GapProofs::why);
    }

    private static void promise29WhyInAPlainZoneIsState() {
        plainIsState("why", GapProofs::why);
    }

    private static void promise29Why1IsAheadOfAll() {
        GapProofs x = told(TEXT);
        due("why(1, 11)", x.why(1, 11), 1);
        due("why(0, 10)", x.why(0, 10), 1);
        x.publish(1, 20);
        x.activate(1, 20);
        due("ACTIVE, not for SPAN, without a digest", x.why(1, 20), 1);
        due("the one that was, out for no SPAN", x.why(1, 11), 3);
        x.tick(5);
        due("the one that was, for SPAN", x.why(1, 11), 0);
    }

    private static void promise29Why2IsAheadOf4And5() {
        GapProofs x = told(TEXT);
        due("neither out nor with a digest", x.why(1, 20), 2);
        x.digest(1, 20);
        due("a digest alone", x.why(1, 20), 2);
        x.tick(100);
        due("a digest alone for SPAN", x.why(1, 20), 2);
        due("a KEY of another ZONE", x.why(1, 10), 2);
    }

    /** SPAN is just not over, and just over. */
    private static void promise29Why3TillItIsOutForSpan() {
        for (int z : new int[] {0, 1, 3})
            for (int span : new int[] {1, 2, 59, 60}) {
                GapProofs x = told("zone a;plain p;zone b.a;span " + span + ";");
                x.tick(3);
                x.publish(z, 20);
                due("why at once", x.why(z, 20), 3);
                if (span > 1) x.tick(span - 1);
                due("why when SPAN is just not over", x.why(z, 20), 3);
                x.digest(z, 20);
                due("why with a digest: 3 is ahead of 5", x.why(z, 20), 3);
                x.undigest(z, 20);
                x.tick(1);
                due("why when SPAN is just over", x.why(z, 20), 4);
            }
    }

    private static void promise29Why4TillItsDigestIsThere() {
        GapProofs x = told(TEXT);
        x.publish(1, 20);
        x.publish(0, 20);
        x.tick(100);
        due("why(1, 20)", x.why(1, 20), 4);
        due("why(0, 20) that is not in TRUST", x.why(0, 20), 4);
        x.digest(1, 21);
        x.digest(0, 21);
        due("why(1, 20) with a digest of another KEY", x.why(1, 20), 4);
        due("why(0, 20) with another KEY in TRUST", x.why(0, 20), 4);
    }

    private static void promise29Why5TillItsDigestIsThereForSpan() {
        for (int span : new int[] {1, 5, 60}) {
            GapProofs x = told("zone a;plain p;zone b.a;span " + span + ";");
            x.publish(1, 20);
            x.tick(60);
            x.digest(1, 20);
            due("why at once", x.why(1, 20), 5);
            if (span > 1) x.tick(span - 1);
            due("why when SPAN is just not over", x.why(1, 20), 5);
            x.tick(1);
            due("why when SPAN is just over", x.why(1, 20), 0);
        }
    }

    private static void promise29Why5IsNotOfZone0() {
        GapProofs x = told(TEXT);
        x.publish(0, 20);
        x.tick(4);
        x.digest(0, 20);
        due("why(0, 20) when SPAN is just not over", x.why(0, 20), 3);
        x.tick(1);
        due("why(0, 20) when SPAN is just over", x.why(0, 20), 0);
        x.undigest(0, 20);
        due("why(0, 20) without TRUST", x.why(0, 20), 4);
        x.digest(0, 20);
        due("why(0, 20) with TRUST of now", x.why(0, 20), 0);
    }

    private static void promise29WhyCountsAnewFromWhatCameAnew() {
        GapProofs x = told(TEXT);
        x.publish(1, 20);
        x.digest(1, 20);
        x.tick(5);
        due("why", x.why(1, 20), 0);
        x.undigest(1, 20);
        x.digest(1, 20);
        due("why of a digest anew", x.why(1, 20), 5);
        x.tick(5);
        x.retire(1, 20);
        due("why of what is out no more", x.why(1, 20), 2);
        x.publish(1, 20);
        due("why of what is out anew", x.why(1, 20), 3);
        x.tick(5);
        due("why for SPAN", x.why(1, 20), 0);
    }

    // ---- 30

    private static void promise30ActivateOfNoZoneOrKeyIsBad() {
        badZonesAndKeys("activate", GapProofs::activate);
    }

    private static void promise30ActivateInAPlainZoneIsState() {
        plainIsState("activate", GapProofs::activate);
    }

    private static void promise30ActivateIfWhyTells1IsState() {
        GapProofs x = told(TEXT);
        due("activate(1, 11)", x.activate(1, 11), STATE);
        due("activate(0, 10)", x.activate(0, 10), STATE);
        x.publish(1, 20);
        due("activate(1, 20)", x.activate(1, 20), 11);
        due("activate(1, 20) again", x.activate(1, 20), STATE);
        keysAre(x, 1, 20, 11, 20);
    }

    private static void promise30ActivateIfWhyTells2IsState() {
        GapProofs x = told(TEXT);
        due("activate(1, 20)", x.activate(1, 20), STATE);
        x.digest(1, 20);
        x.tick(100);
        due("activate(1, 20) with a digest alone", x.activate(1, 20), STATE);
        due("activate(1, 10), a KEY of another ZONE", x.activate(1, 10), STATE);
        keysAre(x, 1, 11, 11);
    }

    private static void promise30ActivateWhateverElseWhyTells() {
        for (int wanted : new int[] {3, 4, 5, 0}) {
            GapProofs x = told(TEXT);
            x.publish(1, 20);
            if (wanted != 3) x.tick(5);
            if (wanted == 5 || wanted == 0) x.digest(1, 20);
            if (wanted == 0) x.tick(5);
            due("why(1, 20)", x.why(1, 20), wanted);
            due("activate(1, 20) where why() tells " + wanted, x.activate(1, 20), 11);
            keysAre(x, 1, 20, 11, 20);
        }
    }

    private static void promise30ActivateTheLeastAndTheGreatestKeyAndBack() {
        for (int z : new int[] {0, 1, 3}) {
            GapProofs x = told(TEXT);
            x.publish(z, 1);
            x.publish(z, 999);
            due("activate(" + z + ", 1)", x.activate(z, 1), 10 + z);
            due("activate(" + z + ", 999)", x.activate(z, 999), 1);
            due("activate(" + z + ", " + (10 + z) + ")", x.activate(z, 10 + z), 999);
            keysAre(x, z, 10 + z, 1, 10 + z, 999);
            for (int other : new int[] {0, 1, 3}) if (other != z) due("the ACTIVE KEY of another ZONE", x.zone(other, 7), 10 + other);
        }
    }

    /** What why() warns of: a KEY made ACTIVE before its time leaves a cache in a hole, one of its time does not. */
    private static void promise30ActivateInItsTimeLeavesNoCacheInAHole() {
        GapProofs x = told(TEXT);
        due("check()", askAndCheck(x, "c.a", 1), 0);
        x.publish(1, 20);
        x.digest(1, 20);
        x.tick(5);
        due("why(1, 20)", x.why(1, 20), 0);
        x.activate(1, 20);
        due("check() in its time", askAndCheck(x, "c.a", 1), 0);
        x = told(TEXT);
        due("check()", askAndCheck(x, "c.a", 1), 0);
        x.publish(1, 20);
        x.digest(1, 20);
        x.tick(4);
        due("why(1, 20)", x.why(1, 20), 3);
        x.activate(1, 20);
        due("check() before its time", askAndCheck(x, "c.a", 1), -23);
    }
}
