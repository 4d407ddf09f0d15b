/** Promises 7, 8, 9, 10 and 19 at their limits: each test names its sentence. */
final class CapabilitiesBoundaryTest extends Limits {
    private static final Checks CHECKS = new Checks("CapabilitiesBoundaryTest");
    private static final Scene SIX = new Scene(CHECKS, Limits::sixDomains);
    private static final Scene FULL = SIX.then(x -> fill(x, 0));
    private static final Scene ONE_ENDED = new Scene(CHECKS, Limits::oneEnded);
    private static final int[] NOT_YET_DOMAINS = {2, 5};
    /** 40 were made: those of the six domains, and the others for rights 15, the last in slot 1. */
    private static final Scene FORTY = SIX.then(x -> makeForty(x, 0, 1));
    private static final Scene DEAD = ONE_ENDED.then(x -> x.revoke(0, 0));

    public static void main(String[] args) {
        promise7HowManyWereEverMade();
        promise7InPlaceOfWhatIsThere();
        promise7WithoutParent();
        promise7Arguments();
        promise7Ended();
        promise7NoSuchObject();
        promise7FortyWereMade();
        promise7InOrder();
        promise8HowManyWereEverMade();
        promise8TheseRightsAndUses();
        promise8Arguments();
        promise8EndedOrDead();
        promise8Empty();
        promise8ARightThatTheParentLacks();
        promise8FortyWereMade();
        promise8InOrder();
        promise9OneIfThereWasOne();
        promise9DeadOrNot();
        promise9NoDomainOrSlot();
        promise9Ended();
        promise9Empty();
        promise9InOrder();
        promise10HowManyAreDeadNow();
        promise10NoDomainOrSlot();
        promise10EndedOrEmpty();
        promise10NotItsHome();
        promise10InOrder();
        promise19NoSuchOrEnded();
        promise19EmptyOrNot();
        promise19NotDeadOrDead();
        CHECKS.finish();
    }

    /** "how many CAPABILITIES were ever made" */
    private static void promise7HowManyWereEverMade() {
        Scene first = new Scene(CHECKS, x -> {
            x.domain();
            x.object(0);
        });
        first.answers("7: the first", 1, x -> x.export(0, 0, 0, 0, 0));
        SIX.answers("7: the seventh", 7, x -> x.export(0, 0, 0, 0, 0));
        DEAD.answers("7: the dead were made, too", 3, x -> x.export(0, 0, 0, 0, 0));
    }

    /** "comes into SLOT s of d, in place of what is there" */
    private static void promise7InPlaceOfWhatIsThere() {
        SIX.then(x -> x.export(0, 0, 0, 2, 9)).answers("7: in place of another", 8,
                x -> x.write(0, 0, 0, 0));
        SIX.then(x -> x.export(0, 0, 0, 2, 9)).answers("7: which is in its other slot", -1,
                x -> x.write(0, 7, 0, 0));
        DEAD.then(x -> x.export(0, 0, 0, 2, 9)).tells("7: in place of a dead one", 1,
                x -> x.slot(0, 0));
        SIX.then(x -> x.export(0, 0, 3, 2, 9)).tells("7: into an empty slot", 1, x -> x.slot(0, 3));
        SIX.then(x -> x.export(0, 0, 3, 2, 9)).tells("7: not into the next", 0, x -> x.slot(0, 4));
        SIX.then(x -> x.export(0, 0, 3, 2, 9)).tells("7: nor another's", 0, x -> x.slot(1, 3));
    }

    /** "A new CAPABILITY without parent" */
    private static void promise7WithoutParent() {
        Scene second = SIX.then(x -> x.export(0, 0, 0, 31, -1));
        second.then(x -> x.revoke(0, 7)).tells("7: the one before revoked", 1, x -> x.slot(0, 0));
        second.then(x -> x.revoke(0, 0)).tells("7: the new one revoked", 1, x -> x.slot(0, 7));
        Scene usedUp = SIX.then(x -> {
            x.export(0, 0, 0, 31, 0);
            x.export(0, 0, 0, 31, 1);
        });
        usedUp.answers("7: the one before used up", 0, x -> x.write(0, 0, 0, 0));
    }

    /** "IllegalArgumentException: no such DOMAIN, s out of 0 .. 7, rights out of 0 .. 31, or uses below -1." */
    private static void promise7Arguments() {
        SIX.answersEach("7: domain", 7, DOMAINS, (x, d) -> x.export(d, 0, 0, 0, 0));
        SIX.refusesEach("7: domain", ARGUMENT, NO_DOMAINS, (x, d) -> x.export(d, 0, 0, 0, 0));
        ONE_ENDED.refusesEach("7: not yet made", ARGUMENT, NOT_YET_DOMAINS,
                (x, d) -> x.export(d, 0, 0, 0, 0));
        SIX.answersEach("7: slot", 7, SLOTS, (x, s) -> x.export(0, 0, s, 0, 0));
        SIX.refusesEach("7: slot", ARGUMENT, NO_SLOTS, (x, s) -> x.export(0, 0, s, 0, 0));
        SIX.answersEach("7: rights", 7, RIGHTS, (x, r) -> x.export(0, 0, 0, r, 0));
        SIX.refusesEach("7: rights", ARGUMENT, NO_RIGHTS, (x, r) -> x.export(0, 0, 0, r, 0));
        SIX.answersEach("7: uses", 7, USES, (x, u) -> x.export(0, 0, 0, 0, u));
        SIX.refusesEach("7: uses", ARGUMENT, NO_USES, (x, u) -> x.export(0, 0, 0, 0, u));
    }

    /** "IllegalStateException: d has ended." */
    private static void promise7Ended() {
        ONE_ENDED.refuses("7: ended", STATE, x -> x.export(1, 0, 0, 0, 0));
        ONE_ENDED.answers("7: not ended", 3, x -> x.export(0, 0, 0, 0, 0));
    }

    /** "NoSuchElementException: no such OBJECT." */
    private static void promise7NoSuchObject() {
        FULL.answersEach("7: object", 7, OBJECTS, (x, o) -> x.export(0, o, 0, 0, 0));
        FULL.refusesEach("7: object", ELEMENT, NO_OBJECTS, (x, o) -> x.export(0, o, 0, 0, 0));
        FULL.refuses("7: another domain's object", ELEMENT, x -> x.export(1, 11, 0, 0, 0));
        FULL.then(x -> freeBy(x, 0, 5, 1)).refuses("7: a freed object", ELEMENT,
                x -> x.export(0, 5, 0, 0, 0));
    }

    /** "ArithmeticException: 40 CAPABILITIES were made." */
    private static void promise7FortyWereMade() {
        FORTY.refuses("7: the forty-first", ARITHMETIC, x -> x.export(0, 0, 1, 0, 0));
        FORTY.refuses("7: in another domain", ARITHMETIC, x -> x.export(5, 0, 1, 0, 0));
        FORTY.then(x -> x.end(0)).refuses("7: the dead were made, too", ARITHMETIC,
                x -> x.export(1, 0, 1, 0, 0));
        Scene less = SIX.then(x -> narrowBy(x, 0, 0, 33));
        less.answers("7: the fortieth", 40, x -> x.export(0, 0, 0, 0, 0));
        less.then(x -> x.narrow(0, 0, 0, 0)).refuses("7: the narrowed were made, too", ARITHMETIC,
                x -> x.export(0, 0, 0, 0, 0));
    }

    /** "In this order; so for the next ones." */
    private static void promise7InOrder() {
        Scene ended = FORTY.then(x -> x.end(1));
        ended.refuses("7: domain before 40", ARGUMENT, x -> x.export(6, 12, 0, 0, 0));
        ended.refuses("7: slot before ended", ARGUMENT, x -> x.export(1, 0, 8, 0, 0));
        ended.refuses("7: rights before ended", ARGUMENT, x -> x.export(1, 0, 0, 32, 0));
        ended.refuses("7: uses before ended", ARGUMENT, x -> x.export(1, 0, 0, 0, -2));
        ended.refuses("7: slot before object", ARGUMENT, x -> x.export(0, 12, 8, 0, 0));
        ended.refuses("7: rights before object", ARGUMENT, x -> x.export(0, 12, 0, 32, 0));
        ended.refuses("7: uses before object", ARGUMENT, x -> x.export(0, 12, 0, 0, -2));
        ended.refuses("7: uses before 40", ARGUMENT, x -> x.export(0, 0, 0, 0, -2));
        ended.refuses("7: ended before object", STATE, x -> x.export(1, 12, 0, 0, 0));
        ended.refuses("7: ended before 40", STATE, x -> x.export(1, 0, 0, 0, 0));
        ended.refuses("7: object before 40", ELEMENT, x -> x.export(0, 12, 0, 0, 0));
    }

    /** "how many were ever made" */
    private static void promise8HowManyWereEverMade() {
        ONE_ENDED.answers("8: the third", 3, x -> x.narrow(0, 0, 0, 0));
        ONE_ENDED.then(x -> x.narrow(0, 0, 0, 0)).answers("8: the fourth", 4,
                x -> x.narrow(0, 0, 0, 0));
    }

    /** "as parent, the same target and home, and these RIGHTS and USES comes into SLOT s" */
    private static void promise8TheseRightsAndUses() {
        Scene given = SIX.then(x -> {
            x.object(0);
            x.set(0, 1, 0, 77);
            x.export(0, 1, 1, 31, 3);
            x.give(0, 1, 1, 1);
            x.give(0, 1, 1, 2);
            x.narrow(1, 1, 3, MOST);
        });
        given.answers("8: more uses than the parent's", MOST - 1, x -> x.write(1, 1, 0, 0));
        given.answers("8: the same target", 77, x -> x.read(1, 1, 0));
        given.refuses("8: these rights", RIGHT, x -> x.free(1, 1));
        given.answers("8: the parent stays in other slots", 0, x -> x.free(1, 2));
        given.refuses("8: the same home, not the narrower's", RIGHT, x -> x.revoke(1, 1));
        given.then(x -> x.give(1, 1, 0, 2)).answers("8: the same home", 1, x -> x.revoke(0, 2));
        given.answers("8: the parent's parenthood", 2, x -> x.revoke(0, 1));
        SIX.then(x -> x.narrow(0, 0, 31, -1)).answers("8: with all rights and uses without end", -1,
                x -> x.write(0, 0, 0, 0));
    }

    /** "IllegalArgumentException: no such DOMAIN, s, rights or uses out of range as in export." */
    private static void promise8Arguments() {
        SIX.answersEach("8: domain", 7, DOMAINS, (x, d) -> x.narrow(d, 0, 0, 0));
        SIX.refusesEach("8: domain", ARGUMENT, NO_DOMAINS, (x, d) -> x.narrow(d, 0, 0, 0));
        ONE_ENDED.refusesEach("8: not yet made", ARGUMENT, NOT_YET_DOMAINS,
                (x, d) -> x.narrow(d, 0, 0, 0));
        SIX.answersEach("8: slot", 7, SLOTS, (x, s) -> x.narrow(0, s, 0, 0));
        SIX.refusesEach("8: slot", ARGUMENT, NO_SLOTS, (x, s) -> x.narrow(0, s, 0, 0));
        SIX.answersEach("8: rights", 7, RIGHTS, (x, r) -> x.narrow(0, 0, r, 0));
        SIX.refusesEach("8: rights", ARGUMENT, NO_RIGHTS, (x, r) -> x.narrow(0, 0, r, 0));
        SIX.answersEach("8: uses", 7, USES, (x, u) -> x.narrow(0, 0, 0, u));
        SIX.refusesEach("8: uses", ARGUMENT, NO_USES, (x, u) -> x.narrow(0, 0, 0, u));
    }

    /** "IllegalStateException: d has ended, or the CAPABILITY is DEAD." */
    private static void promise8EndedOrDead() {
        ONE_ENDED.refuses("8: ended", STATE, x -> x.narrow(1, 0, 0, 0));
        DEAD.refuses("8: revoked", STATE, x -> x.narrow(0, 0, 0, 0));
        Scene child = SIX.then(x -> {
            x.give(0, 0, 1, 1);
            x.narrow(1, 1, 31, -1);
        });
        child.answers("8: not dead", 8, x -> x.narrow(1, 1, 0, 0));
        child.then(x -> x.free(0, 0)).refuses("8: target freed", STATE, x -> x.narrow(1, 1, 0, 0));
        child.then(x -> x.end(0)).refuses("8: home ended", STATE, x -> x.narrow(1, 1, 0, 0));
        child.then(x -> x.revoke(0, 0)).refuses("8: parent dead", STATE,
                x -> x.narrow(1, 1, 0, 0));
        Scene usedUp = ONE_ENDED.then(x -> x.narrow(0, 0, 31, 0));
        usedUp.answers("8: used up is not dead", 4, x -> x.narrow(0, 0, 31, -1));
    }

    /** "NoSuchElementException: the SLOT is empty (tested before DEAD)." */
    private static void promise8Empty() {
        ONE_ENDED.refusesEach("8: empty slot", ELEMENT, new int[] {1, 7},
                (x, s) -> x.narrow(0, s, 0, 0));
        DEAD.refuses("8: empty beside a dead one", ELEMENT, x -> x.narrow(0, 1, 0, 0));
    }

    /** "UnsupportedOperationException: a RIGHT that the parent lacks." */
    private static void promise8ARightThatTheParentLacks() {
        for (int right = 1; right < 32; right *= 2) {
            int one = right;
            Scene without = ONE_ENDED.then(x -> x.export(0, 0, 0, 31 - one, 3));
            without.refuses("8: lacks right " + right, RIGHT, x -> x.narrow(0, 0, one, 0));
            without.refuses("8: all rights, lacks " + right, RIGHT, x -> x.narrow(0, 0, 31, 0));
            without.answers("8: all but " + right, 4, x -> x.narrow(0, 0, 31 - one, 0));
            without.then(x -> x.narrow(0, 0, 0, -1)).refuses(
                    "8: that the parent's parent has, not " + right, RIGHT,
                    x -> x.narrow(0, 0, 31 - one, 0));
        }
        Scene none = ONE_ENDED.then(x -> x.export(0, 0, 0, 0, -1));
        none.answers("8: no right of none", 4, x -> x.narrow(0, 0, 0, 0));
        none.refuses("8: one right of none", RIGHT, x -> x.narrow(0, 0, 1, 0));
    }

    /** "ArithmeticException: 40 were made." */
    private static void promise8FortyWereMade() {
        FORTY.refuses("8: the forty-first", ARITHMETIC, x -> x.narrow(0, 1, 0, 0));
        FORTY.then(x -> x.end(0)).refuses("8: the dead were made, too", ARITHMETIC,
                x -> x.narrow(1, 0, 0, 0));
        Scene less = SIX.then(x -> narrowBy(x, 0, 0, 33));
        less.answers("8: the fortieth", 40, x -> x.narrow(0, 0, 0, 0));
    }

    /** "In this order; so for the next ones", with "(tested before DEAD)". */
    private static void promise8InOrder() {
        Scene ended = FORTY.then(x -> {
            x.end(1);
            x.revoke(2, 0);
        });
        ended.refuses("8: slot before ended", ARGUMENT, x -> x.narrow(1, 8, 0, 0));
        ended.refuses("8: rights before ended", ARGUMENT, x -> x.narrow(1, 0, 32, 0));
        ended.refuses("8: uses before ended", ARGUMENT, x -> x.narrow(1, 0, 0, -2));
        ended.refuses("8: rights before empty", ARGUMENT, x -> x.narrow(0, 2, 32, 0));
        ended.refuses("8: uses before empty", ARGUMENT, x -> x.narrow(0, 2, 0, -2));
        ended.refuses("8: rights before dead", ARGUMENT, x -> x.narrow(2, 0, -1, 0));
        ended.refuses("8: uses before dead", ARGUMENT, x -> x.narrow(2, 0, 0, -2));
        ended.refuses("8: rights out of range before lacking", ARGUMENT, x -> x.narrow(0, 1, 48, 0));
        ended.refuses("8: uses before lacking", ARGUMENT, x -> x.narrow(0, 1, 16, -2));
        ended.refuses("8: uses before 40", ARGUMENT, x -> x.narrow(0, 1, 0, -2));
        ended.refuses("8: ended before empty", STATE, x -> x.narrow(1, 2, 0, 0));
        ended.refuses("8: empty before lacking and 40", ELEMENT, x -> x.narrow(0, 2, 31, 0));
        ended.refuses("8: dead before 40", STATE, x -> x.narrow(2, 0, 0, 0));
        ended.then(x -> x.revoke(0, 1)).refuses("8: dead before lacking", STATE,
                x -> x.narrow(0, 1, 16, 0));
        ended.refuses("8: lacking before 40", RIGHT, x -> x.narrow(0, 1, 16, 0));
    }

    /** "1 if t had one, else 0" */
    private static void promise9OneIfThereWasOne() {
        SIX.answers("9: t empty", 0, x -> x.give(0, 0, 1, 1));
        SIX.answers("9: t had one", 1, x -> x.give(0, 0, 1, 0));
        SIX.then(x -> x.revoke(1, 0)).answers("9: t had a dead one", 1, x -> x.give(0, 0, 1, 0));
        SIX.then(x -> x.give(0, 0, 1, 1)).answers("9: t had the same", 1, x -> x.give(0, 0, 1, 1));
        SIX.answers("9: to itself", 0, x -> x.give(0, 0, 0, 1));
        SIX.answers("9: to its own slot", 1, x -> x.give(0, 0, 0, 0));
        SIX.then(x -> x.give(0, 0, 0, 0)).tells("9: which keeps it", 1, x -> x.slot(0, 0));
        SIX.then(x -> x.give(0, 0, 1, 1)).tells("9: the giver keeps it", 1, x -> x.slot(0, 0));
    }

    /** "the CAPABILITY in SLOT s of DOMAIN d (DEAD or not)" */
    private static void promise9DeadOrNot() {
        SIX.then(x -> x.give(0, 0, 1, 1)).tells("9: not dead", 1, x -> x.slot(1, 1));
        Scene dead = SIX.then(x -> x.revoke(0, 0));
        dead.answers("9: dead", 0, x -> x.give(0, 0, 1, 1));
        dead.answers("9: dead over a living one", 1, x -> x.give(0, 0, 1, 0));
        dead.then(x -> x.give(0, 0, 1, 0)).tells("9: then it is there", 2, x -> x.slot(1, 0));
        SIX.then(x -> x.export(0, 0, 0, 0, 0)).answers("9: used up", 0, x -> x.give(0, 0, 1, 1));
    }

    /** "IllegalArgumentException: a DOMAIN or SLOT is none." */
    private static void promise9NoDomainOrSlot() {
        SIX.answersEach("9: giver", 0, DOMAINS, (x, d) -> x.give(d, 0, 1, 1));
        SIX.refusesEach("9: giver", ARGUMENT, NO_DOMAINS, (x, d) -> x.give(d, 0, 1, 1));
        SIX.answersEach("9: slot", 0, SLOTS, (x, s) -> x.give(0, s, 1, 1));
        SIX.refusesEach("9: slot", ARGUMENT, NO_SLOTS, (x, s) -> x.give(0, s, 1, 1));
        SIX.answersEach("9: taker", 0, DOMAINS, (x, e) -> x.give(1, 0, e, 1));
        SIX.refusesEach("9: taker", ARGUMENT, NO_DOMAINS, (x, e) -> x.give(1, 0, e, 1));
        SIX.answersEach("9: taker's slot", 1, SLOTS, (x, t) -> x.give(0, 0, 1, t));
        SIX.refusesEach("9: taker's slot", ARGUMENT, NO_SLOTS, (x, t) -> x.give(0, 0, 1, t));
        ONE_ENDED.refusesEach("9: giver not yet made", ARGUMENT, NOT_YET_DOMAINS,
                (x, d) -> x.give(d, 0, 0, 0));
        ONE_ENDED.refusesEach("9: taker not yet made", ARGUMENT, NOT_YET_DOMAINS,
                (x, e) -> x.give(0, 0, e, 0));
    }

    /** "IllegalStateException: d or e has ended." */
    private static void promise9Ended() {
        ONE_ENDED.refuses("9: giver ended", STATE, x -> x.give(1, 0, 0, 0));
        ONE_ENDED.refuses("9: taker ended", STATE, x -> x.give(0, 0, 1, 0));
        ONE_ENDED.refuses("9: both are the ended one", STATE, x -> x.give(1, 0, 1, 0));
        ONE_ENDED.answers("9: neither ended", 0, x -> x.give(0, 0, 0, 1));
    }

    /** "NoSuchElementException: s is empty." */
    private static void promise9Empty() {
        SIX.refusesEach("9: empty slot", ELEMENT, new int[] {1, 6}, (x, s) -> x.give(0, s, 1, 0));
        SIX.refuses("9: empty to empty", ELEMENT, x -> x.give(0, 1, 1, 1));
    }

    /** "In this order; so for the next ones." */
    private static void promise9InOrder() {
        ONE_ENDED.refuses("9: slot before ended giver", ARGUMENT, x -> x.give(1, 8, 0, 0));
        ONE_ENDED.refuses("9: taker before ended giver", ARGUMENT, x -> x.give(1, 0, 2, 0));
        ONE_ENDED.refuses("9: its slot before ended giver", ARGUMENT, x -> x.give(1, 0, 0, 8));
        ONE_ENDED.refuses("9: giver before ended taker", ARGUMENT, x -> x.give(2, 0, 1, 0));
        ONE_ENDED.refuses("9: slot before ended taker", ARGUMENT, x -> x.give(0, -1, 1, 0));
        ONE_ENDED.refuses("9: its own slot before ended taker", ARGUMENT, x -> x.give(0, 0, 1, -1));
        ONE_ENDED.refuses("9: taker before empty", ARGUMENT, x -> x.give(0, 1, 2, 0));
        ONE_ENDED.refuses("9: its slot before empty", ARGUMENT, x -> x.give(0, 1, 0, 8));
        ONE_ENDED.refuses("9: ended giver before empty", STATE, x -> x.give(1, 1, 0, 0));
        ONE_ENDED.refuses("9: ended taker before empty", STATE, x -> x.give(0, 1, 1, 0));
    }

    /** "how many CAPABILITIES that were not DEAD are DEAD now" */
    private static void promise10HowManyAreDeadNow() {
        SIX.answers("10: itself alone", 1, x -> x.revoke(0, 0));
        SIX.then(x -> x.revoke(0, 0)).answers("10: revoked before", 0, x -> x.revoke(0, 7));
        SIX.then(x -> x.free(0, 0)).answers("10: its target freed before", 0, x -> x.revoke(0, 7));
        SIX.then(x -> makeForty(x, 0, 1)).answers("10: one of forty", 1, x -> x.revoke(0, 0));
        Scene family = SIX.then(x -> narrowBy(x, 0, 0, 34));
        family.answers("10: a family of 35", 35, x -> x.revoke(0, 7));
        family.answers("10: its last child", 1, x -> x.revoke(0, 0));
        family.then(x -> x.revoke(0, 0)).answers("10: all but its last child", 34,
                x -> x.revoke(0, 7));
        family.then(x -> x.revoke(0, 7)).answers("10: its last child, whose parent is dead", 0,
                x -> x.revoke(0, 0));
        SIX.then(x -> x.export(0, 0, 0, 0, 0)).answers("10: used up and without rights", 1,
                x -> x.revoke(0, 0));
    }

    /** "IllegalArgumentException [...] as in give" */
    private static void promise10NoDomainOrSlot() {
        SIX.answersEach("10: domain", 1, DOMAINS, (x, d) -> x.revoke(d, 0));
        SIX.refusesEach("10: domain", ARGUMENT, NO_DOMAINS, (x, d) -> x.revoke(d, 0));
        SIX.answersEach("10: slot", 1, SLOTS, (x, s) -> x.revoke(0, s));
        SIX.refusesEach("10: slot", ARGUMENT, NO_SLOTS, (x, s) -> x.revoke(0, s));
        ONE_ENDED.refusesEach("10: not yet made", ARGUMENT, NOT_YET_DOMAINS,
                (x, d) -> x.revoke(d, 0));
    }

    /** "IllegalStateException (ended), NoSuchElementException (empty) as in give" */
    private static void promise10EndedOrEmpty() {
        ONE_ENDED.refuses("10: ended", STATE, x -> x.revoke(1, 0));
        ONE_ENDED.refusesEach("10: empty slot", ELEMENT, new int[] {1, 7}, (x, s) -> x.revoke(0, s));
    }

    /** "UnsupportedOperationException: d is not its home." */
    private static void promise10NotItsHome() {
        Scene given = SIX.then(x -> x.give(0, 0, 1, 1));
        given.refuses("10: not its home", RIGHT, x -> x.revoke(1, 1));
        given.answers("10: its home", 1, x -> x.revoke(0, 0));
        given.then(x -> x.narrow(1, 1, 31, -1)).refuses("10: who narrowed is not its home", RIGHT,
                x -> x.revoke(1, 1));
        given.then(x -> x.revoke(0, 0)).refuses("10: a dead one, not its home", RIGHT,
                x -> x.revoke(1, 1));
        given.then(x -> x.end(0)).refuses("10: its home has ended", RIGHT, x -> x.revoke(1, 1));
        Scene back = given.then(x -> {
            x.narrow(1, 1, 1, 1);
            x.give(1, 1, 0, 1);
        });
        back.answers("10: narrowed elsewhere, given back", 1, x -> x.revoke(0, 1));
    }

    /** "In this order; so for the next ones." */
    private static void promise10InOrder() {
        ONE_ENDED.refuses("10: slot before ended", ARGUMENT, x -> x.revoke(1, 8));
        ONE_ENDED.refuses("10: ended before empty", STATE, x -> x.revoke(1, 1));
    }

    /** "-1 no such or ended" */
    private static void promise19NoSuchOrEnded() {
        SIX.tellsEach("19: domain", 1, DOMAINS, (x, d) -> x.slot(d, 0));
        SIX.tellsEach("19: domain", -1, NO_DOMAINS, (x, d) -> x.slot(d, 0));
        SIX.tellsEach("19: slot", 1, SLOTS, (x, s) -> x.slot(0, s));
        SIX.tellsEach("19: slot", -1, NO_SLOTS, (x, s) -> x.slot(0, s));
        ONE_ENDED.tells("19: ended", -1, x -> x.slot(1, 0));
        ONE_ENDED.tells("19: ended, and empty before", -1, x -> x.slot(1, 1));
        ONE_ENDED.tellsEach("19: not yet made", -1, NOT_YET_DOMAINS, (x, d) -> x.slot(d, 0));
    }

    /** "0 empty" */
    private static void promise19EmptyOrNot() {
        SIX.tellsEach("19: empty", 0, new int[] {1, 6}, (x, s) -> x.slot(0, s));
        SIX.then(x -> x.give(0, 0, 0, 1)).tells("19: no more empty", 1, x -> x.slot(0, 1));
    }

    /** "1 a CAPABILITY that is not DEAD, 2 a DEAD one" */
    private static void promise19NotDeadOrDead() {
        Scene given = SIX.then(x -> {
            x.give(0, 0, 1, 1);
            x.narrow(1, 1, 0, 0);
        });
        given.tells("19: used up is not dead", 1, x -> x.slot(1, 1));
        given.then(x -> x.revoke(0, 0)).tells("19: parent revoked", 2, x -> x.slot(1, 1));
        given.then(x -> x.free(0, 0)).tells("19: target freed", 2, x -> x.slot(1, 1));
        given.then(x -> x.end(0)).tells("19: home ended", 2, x -> x.slot(1, 1));
        given.then(x -> x.end(1)).tells("19: where it was given ended", 1, x -> x.slot(0, 0));
    }
}
