/** Promises 1, 2, 3, 16 and 20 at their limits: each test names its sentence. */
final class DomainsBoundaryTest extends Limits {
    private static final Checks CHECKS = new Checks("DomainsBoundaryTest");
    private static final Scene NEW = new Scene(CHECKS, x -> { });
    private static final Scene SIX = new Scene(CHECKS, Limits::sixDomains);
    private static final Scene ONE_ENDED = new Scene(CHECKS, Limits::oneEnded);
    /** Domain 1 is not made yet, and the ones after it. */
    private static final int[] NOT_YET_DOMAINS = {1, 5};

    public static void main(String[] args) {
        promise1NoDomains();
        promise1NoDomainsForAnyCall();
        promise2Numbers();
        promise2SixWereMade();
        promise3NoSuchDomain();
        promise3Ended();
        promise3TwelveAreThere();
        promise3EndedBeforeTwelve();
        promise16NoSuchDomain();
        promise16Ended();
        promise16HowManyAreDeadNow();
        promise16ObjectsAndSlotsAreGone();
        promise20DomainsMade();
        promise20AliveOnes();
        promise20CapabilitiesMade();
        promise20NotDead();
        promise20Objects();
        promise20Else();
        CHECKS.finish();
    }

    /** "No DOMAINS." */
    private static void promise1NoDomains() {
        for (int what = 0; what < 10; what++) {
            int asked = what;
            NEW.tells("1: count " + what, 0, x -> x.count(asked));
        }
        NEW.tells("1: slot", -1, x -> x.slot(0, 0));
        NEW.tells("1: holds", -1, x -> x.holds(0, 0, 0));
        NEW.tells("1: linked", -1, x -> x.linked(0, 0, 0));
    }

    /** "No DOMAINS.": so each call that names one finds none. */
    private static void promise1NoDomainsForAnyCall() {
        Scene.Call[] calls = {x -> x.object(0), x -> x.set(0, 0, 0, 0), x -> x.link(0, 0, 0, 0),
            x -> x.hold(0, 0, 0, 0), x -> x.export(0, 0, 0, 0, 0), x -> x.narrow(0, 0, 0, 0),
            x -> x.give(0, 0, 0, 0), x -> x.revoke(0, 0), x -> x.read(0, 0, 0),
            x -> x.write(0, 0, 0, 0), x -> x.pass(0, 0, 0, 0), x -> x.take(0, 0, 0, 0),
            x -> x.free(0, 0), x -> x.end(0)};
        for (int c = 0; c < calls.length; c++) {
            NEW.refuses("1: call " + c, ARGUMENT, calls[c]);
        }
    }

    /** "Makes a DOMAIN: its number." */
    private static void promise2Numbers() {
        Scene scene = NEW;
        for (int d = 0; d < 6; d++) {
            scene.answers("2: domain", d, CapabilityDomains::domain);
            scene = scene.then(CapabilityDomains::domain);
        }
    }

    /** "IllegalStateException: 6 were made." */
    private static void promise2SixWereMade() {
        SIX.refuses("2: a seventh", STATE, CapabilityDomains::domain);
        SIX.then(x -> x.end(0)).refuses("2: ended ones were made", STATE,
                CapabilityDomains::domain);
        Scene five = NEW.then(x -> {
            for (int d = 0; d < 5; d++) {
                x.domain();
            }
        });
        five.answers("2: the sixth", 5, CapabilityDomains::domain);
    }

    /** "IllegalArgumentException: no such DOMAIN." */
    private static void promise3NoSuchDomain() {
        SIX.answersEach("3: object in domain", 1, DOMAINS, (x, d) -> x.object(d));
        SIX.refusesEach("3: object in domain", ARGUMENT, NO_DOMAINS, (x, d) -> x.object(d));
        Scene one = NEW.then(CapabilityDomains::domain);
        one.answers("3: the only domain", 0, x -> x.object(0));
        one.refusesEach("3: not yet made", ARGUMENT, NOT_YET_DOMAINS, (x, d) -> x.object(d));
    }

    /** "IllegalStateException: it has ended." */
    private static void promise3Ended() {
        ONE_ENDED.refuses("3: ended", STATE, x -> x.object(1));
        ONE_ENDED.answers("3: not ended", 1, x -> x.object(0));
    }

    /** "ArithmeticException: 12 OBJECTS are there." */
    private static void promise3TwelveAreThere() {
        Scene eleven = SIX.then(x -> addObjects(x, 0, 10));
        eleven.answers("3: 11 are there", 11, x -> x.object(0));
        Scene twelve = SIX.then(x -> fill(x, 0));
        twelve.refuses("3: 12 are there", ARITHMETIC, x -> x.object(0));
        twelve.answers("3: 12 are there in another", 1, x -> x.object(5));
        SIX.then(x -> fill(x, 5)).refuses("3: 12 are there in the last", ARITHMETIC,
                x -> x.object(5));
        twelve.then(x -> freeBy(x, 0, 3, 1)).answers("3: 12 were there", 3, x -> x.object(0));
        Scene byPass = eleven.then(x -> x.pass(0, 0, 0, 1));
        byPass.refuses("3: 12 are there, one of them a copy", ARITHMETIC, x -> x.object(0));
    }

    /** "IllegalStateException: it has ended. ArithmeticException: 12": what has ended has none. */
    private static void promise3EndedBeforeTwelve() {
        Scene ended = SIX.then(x -> {
            fill(x, 0);
            x.end(0);
        });
        ended.refuses("3: 12 were there at its end", STATE, x -> x.object(0));
    }

    /** "IllegalArgumentException: no such DOMAIN." */
    private static void promise16NoSuchDomain() {
        SIX.answersEach("16: end of domain", 1, DOMAINS, (x, d) -> x.end(d));
        SIX.refusesEach("16: end of domain", ARGUMENT, NO_DOMAINS, (x, d) -> x.end(d));
        NEW.then(CapabilityDomains::domain).refusesEach("16: not yet made", ARGUMENT,
                NOT_YET_DOMAINS, (x, d) -> x.end(d));
    }

    /** "IllegalStateException: it has ended." */
    private static void promise16Ended() {
        ONE_ENDED.refuses("16: ended", STATE, x -> x.end(1));
        ONE_ENDED.answers("16: not ended", 1, x -> x.end(0));
    }

    /** "how many CAPABILITIES that were not DEAD are DEAD now" */
    private static void promise16HowManyAreDeadNow() {
        NEW.then(CapabilityDomains::domain).answers("16: none", 0, x -> x.end(0));
        Scene forty = SIX.then(x -> makeForty(x, 0, 1));
        forty.answers("16: all but the other domains' five", 35, x -> x.end(0));
        forty.answers("16: one of forty", 1, x -> x.end(1));
        forty.then(x -> x.revoke(0, 0)).answers("16: less the revoked", 34, x -> x.end(0));
        forty.then(x -> x.free(0, 0)).answers("16: less all of a freed target", 0, x -> x.end(0));
        Scene narrowed = SIX.then(x -> {
            x.give(0, 0, 1, 1);
            narrowBy(x, 1, 1, 3);
        });
        narrowed.answers("16: those that another narrowed, too", 4, x -> x.end(0));
        narrowed.answers("16: not those that it narrowed of another's", 1, x -> x.end(1));
        SIX.then(x -> x.export(0, 0, 1, 0, 0)).answers("16: the used up, too", 2, x -> x.end(0));
    }

    /** "its OBJECTS and SLOTS are gone" */
    private static void promise16ObjectsAndSlotsAreGone() {
        Scene ended = SIX.then(x -> {
            fill(x, 0);
            x.hold(0, 11, 2, 0);
            x.end(0);
        });
        ended.tells("16: no object is left", 0, x -> x.count(4));
        ended.tellsEach("16: object is gone", -1, OBJECTS, (x, o) -> x.holds(0, o, 2));
        ended.tellsEach("16: slot is gone", -1, SLOTS, (x, s) -> x.slot(0, s));
        ended.tells("16: another's object", 1, x -> x.count(5));
        ended.tells("16: another's slot", 1, x -> x.slot(1, 7));
    }

    /** "0: DOMAINS made" */
    private static void promise20DomainsMade() {
        NEW.tells("20: none made", 0, x -> x.count(0));
        ONE_ENDED.tells("20: two made, one ended", 2, x -> x.count(0));
        SIX.tells("20: six made", 6, x -> x.count(0));
    }

    /** "1: alive ones" */
    private static void promise20AliveOnes() {
        ONE_ENDED.tells("20: one alive", 1, x -> x.count(1));
        ONE_ENDED.then(x -> x.end(0)).tells("20: none alive", 0, x -> x.count(1));
        SIX.tells("20: six alive", 6, x -> x.count(1));
    }

    /** "2: CAPABILITIES ever made" */
    private static void promise20CapabilitiesMade() {
        NEW.then(CapabilityDomains::domain).tells("20: no capability", 0, x -> x.count(2));
        ONE_ENDED.tells("20: two, one dead", 2, x -> x.count(2));
        SIX.then(x -> makeForty(x, 0, 1)).tells("20: forty", 40, x -> x.count(2));
    }

    /** "3: those that are not DEAD" */
    private static void promise20NotDead() {
        ONE_ENDED.tells("20: one not dead", 1, x -> x.count(3));
        ONE_ENDED.then(x -> x.revoke(0, 0)).tells("20: none not dead", 0, x -> x.count(3));
        SIX.then(x -> makeForty(x, 0, 1)).tells("20: forty not dead", 40, x -> x.count(3));
    }

    /** "4 .. 9: OBJECTS of DOMAIN what - 4 (0 if there is none)" */
    private static void promise20Objects() {
        Scene three = NEW.then(x -> {
            sixDomains(x);
            fill(x, 0);
            addObjects(x, 5, 2);
            x.end(4);
        });
        int[] due = {12, 1, 1, 1, 0, 3};
        for (int d = 0; d < 6; d++) {
            int what = d + 4;
            three.tells("20: objects of " + d, due[d], x -> x.count(what));
        }
        ONE_ENDED.tells("20: objects of an ended one", 0, x -> x.count(5));
        ONE_ENDED.tells("20: objects of one not yet made", 0, x -> x.count(6));
        ONE_ENDED.tells("20: objects of the last, not yet made", 0, x -> x.count(9));
        NEW.then(CapabilityDomains::domain).tells("20: no objects", 0, x -> x.count(4));
    }

    /** "Else -1." */
    private static void promise20Else() {
        int[] none = {-1, 10, LEAST, LEAST + 3, LEAST + 4, MOST};
        NEW.tellsEach("20: new, count", -1, none, (x, what) -> x.count(what));
        SIX.tellsEach("20: count", -1, none, (x, what) -> x.count(what));
        SIX.tellsEach("20: just inside, count", 1, new int[] {4, 9}, (x, what) -> x.count(what));
    }
}
