/** Promises 4, 5, 6, 17 and 18 at their limits: each test names its sentence. */
final class FieldsBoundaryTest extends Limits {
    private static final Checks CHECKS = new Checks("FieldsBoundaryTest");
    private static final Scene SIX = new Scene(CHECKS, Limits::sixDomains);
    private static final Scene FULL = SIX.then(x -> fill(x, 0));
    private static final Scene ONE_ENDED = new Scene(CHECKS, Limits::oneEnded);
    /** Between 0 and 2 there was an object 1; the capability that freed it is in slot 1. */
    private static final Scene GAP = ONE_ENDED.then(x -> {
        addObjects(x, 0, 2);
        freeBy(x, 0, 1, 1);
    });
    /** Fields 0, 1 and 2 of object 1 hold an int, a link to 0 and the capability of slot 0. */
    private static final Scene ALL_KINDS = ONE_ENDED.then(x -> {
        x.object(0);
        x.set(0, 1, 0, 1);
        x.link(0, 1, 1, 0);
        x.hold(0, 1, 2, 0);
    });

    /** A call of set, link or hold: "In this order; so for the next ones." */
    private interface Setter {
        int put(CapabilityDomains x, int d, int o, int f);
    }

    public static void main(String[] args) {
        places("4: set", (x, d, o, f) -> x.set(d, o, f, 9));
        places("5: link", (x, d, o, f) -> x.link(d, o, f, 0));
        places("6: hold", (x, d, o, f) -> x.hold(d, o, f, 0));
        promise4WhatIntStoodThere();
        promise4ZeroForALinkOrCapability();
        promise5NoneToLinkTo();
        promise5TestedLast();
        promise6SlotOutOfRange();
        promise6ThenEmpty();
        promise6OrderOfAll();
        promise6WhateverStoodThere();
        promise17Kinds();
        promise17NoneSuch();
        promise18TheObject();
        promise18DoesNotLink();
        promise18NoneSuch();
        CHECKS.finish();
    }

    private static void places(String call, Setter setter) {
        noSuchDomain(call, setter);
        ended(call, setter);
        noSuchObject(call, setter);
        noSuchField(call, setter);
        inThisOrder(call, setter);
    }

    /** "IllegalArgumentException: no such DOMAIN." */
    private static void noSuchDomain(String call, Setter setter) {
        SIX.answersEach(call + " in domain", 0, DOMAINS, (x, d) -> setter.put(x, d, 0, 0));
        SIX.refusesEach(call + " in domain", ARGUMENT, NO_DOMAINS, (x, d) -> setter.put(x, d, 0, 0));
        ONE_ENDED.refusesEach(call + " in a domain not yet made", ARGUMENT, new int[] {2, 5},
                (x, d) -> setter.put(x, d, 0, 0));
    }

    /** "IllegalStateException: it has ended." */
    private static void ended(String call, Setter setter) {
        ONE_ENDED.refuses(call + " in an ended domain", STATE, x -> setter.put(x, 1, 0, 0));
        ONE_ENDED.answers(call + " in a living domain", 0, x -> setter.put(x, 0, 0, 0));
    }

    /** "NoSuchElementException: no such OBJECT." */
    private static void noSuchObject(String call, Setter setter) {
        FULL.answersEach(call + " at object", 0, OBJECTS, (x, o) -> setter.put(x, 0, o, 0));
        FULL.refusesEach(call + " at object", ELEMENT, NO_OBJECTS, (x, o) -> setter.put(x, 0, o, 0));
        GAP.refusesEach(call + " at a freed object, or one not made", ELEMENT, new int[] {1, 3, 11},
                (x, o) -> setter.put(x, 0, o, 0));
        GAP.answersEach(call + " beside it, at object", 0, new int[] {0, 2},
                (x, o) -> setter.put(x, 0, o, 0));
    }

    /** "IndexOutOfBoundsException: no such field." */
    private static void noSuchField(String call, Setter setter) {
        SIX.answersEach(call + " to field", 0, FIELDS, (x, f) -> setter.put(x, 0, 0, f));
        SIX.refusesEach(call + " to field", INDEX, NO_FIELDS, (x, f) -> setter.put(x, 0, 0, f));
    }

    /** "In this order" */
    private static void inThisOrder(String call, Setter setter) {
        ONE_ENDED.refuses(call + ", no domain before all", ARGUMENT, x -> setter.put(x, 2, 12, 3));
        ONE_ENDED.refuses(call + ", ended before object and field", STATE,
                x -> setter.put(x, 1, 12, 3));
        ONE_ENDED.refuses(call + ", object before field", ELEMENT, x -> setter.put(x, 0, 12, 3));
    }

    /** "Sets field f [...] to the int v: what int stood there" */
    private static void promise4WhatIntStoodThere() {
        int[] ints = {LEAST, -1, 0, 1, MOST};
        for (int v : ints) {
            Scene set = SIX.then(x -> x.set(0, 0, 1, v));
            set.answers("4: what stood there, " + v, v, x -> x.set(0, 0, 1, 7));
            set.answers("4: what is read, " + v, v, x -> x.read(0, 0, 1));
            set.tells("4: an int, " + v, 0, x -> x.holds(0, 0, 1));
            set.tells("4: no link, " + v, -1, x -> x.linked(0, 0, 1));
            set.answers("4: the field before, " + v, 0, x -> x.set(0, 0, 0, 7));
            set.answers("4: the field behind, " + v, 0, x -> x.set(0, 0, 2, 7));
        }
    }

    /** "(0 for a link or CAPABILITY)" */
    private static void promise4ZeroForALinkOrCapability() {
        Scene link = FULL.then(x -> x.set(0, 0, 0, 9)).then(x -> x.link(0, 0, 0, 11));
        link.answers("4: over a link that was 9", 0, x -> x.set(0, 0, 0, 7));
        link.then(x -> x.set(0, 0, 0, 7)).tells("4: no link now", 0, x -> x.holds(0, 0, 0));
        Scene held = SIX.then(x -> x.set(0, 0, 0, 9)).then(x -> x.hold(0, 0, 0, 0));
        held.answers("4: over a capability, was 9", 0, x -> x.set(0, 0, 0, 7));
        held.then(x -> x.set(0, 0, 0, 7)).tells("4: no capability now", 0, x -> x.holds(0, 0, 0));
        held.then(x -> x.revoke(0, 0)).answers("4: over a dead one, was 9", 0,
                x -> x.set(0, 0, 0, 7));
    }

    /** "OBJECT t (NoSuchElementException, too, if there is none" */
    private static void promise5NoneToLinkTo() {
        for (int t : OBJECTS) {
            FULL.answers("5: link to " + t, 0, x -> x.link(0, 5, 0, t));
            FULL.then(x -> x.link(0, 5, 0, t)).tells("5: linked to " + t, t,
                    x -> x.linked(0, 5, 0));
            FULL.answers("5: to itself, " + t, 0, x -> x.link(0, t, 0, t));
        }
        FULL.refusesEach("5: link to", ELEMENT, NO_OBJECTS, (x, t) -> x.link(0, 5, 0, t));
        GAP.refusesEach("5: link to a freed one, or one not made", ELEMENT, new int[] {1, 3, 11},
                (x, t) -> x.link(0, 0, 0, t));
        GAP.answersEach("5: link to", 0, new int[] {0, 2}, (x, t) -> x.link(0, 0, 0, t));
        FULL.refuses("5: link to another domain's", ELEMENT, x -> x.link(1, 0, 0, 11));
        ALL_KINDS.refusesEach("5: link to none, field", ELEMENT, FIELDS,
                (x, f) -> x.link(0, 1, f, 2));
        ALL_KINDS.answersEach("5: over field", 0, FIELDS, (x, f) -> x.link(0, 1, f, 1));
        for (int f : FIELDS) {
            ALL_KINDS.then(x -> x.link(0, 1, f, 1)).tells("5: linked over field " + f, 1,
                    x -> x.linked(0, 1, f));
        }
    }

    /** "tested last" */
    private static void promise5TestedLast() {
        ONE_ENDED.refuses("5: domain before t", ARGUMENT, x -> x.link(2, 0, 0, 12));
        ONE_ENDED.refuses("5: ended before t", STATE, x -> x.link(1, 0, 0, 12));
        ONE_ENDED.refuses("5: object and t", ELEMENT, x -> x.link(0, 12, 0, 12));
        ONE_ENDED.refusesEach("5: before t, field", INDEX, NO_FIELDS, (x, f) -> x.link(0, 0, f, 12));
    }

    /** "SLOT s (IndexOutOfBoundsException, too, if s is out of 0 .. 7" */
    private static void promise6SlotOutOfRange() {
        SIX.answersEach("6: hold slot", 0, SLOTS, (x, s) -> x.hold(0, 0, 0, s));
        SIX.refusesEach("6: hold slot", INDEX, NO_SLOTS, (x, s) -> x.hold(0, 0, 0, s));
        ALL_KINDS.refusesEach("6: hold slot 8 in field", INDEX, FIELDS,
                (x, f) -> x.hold(0, 1, f, 8));
    }

    /** "then NoSuchElementException if the SLOT is empty)" */
    private static void promise6ThenEmpty() {
        SIX.refusesEach("6: empty slot", ELEMENT, new int[] {1, 6}, (x, s) -> x.hold(0, 0, 0, s));
        ALL_KINDS.refusesEach("6: empty slot, field", ELEMENT, FIELDS,
                (x, f) -> x.hold(0, 1, f, 1));
        SIX.then(x -> x.revoke(0, 0)).answers("6: a dead one is not empty", 0,
                x -> x.hold(0, 0, 0, 0));
        SIX.then(x -> x.export(0, 0, 1, 0, 0)).answers("6: a used up one is not empty", 0,
                x -> x.hold(0, 0, 0, 1));
    }

    /** "In this order; so for the next ones", and the slot behind them. */
    private static void promise6OrderOfAll() {
        ONE_ENDED.refuses("6: domain before slot", ARGUMENT, x -> x.hold(2, 0, 0, 8));
        ONE_ENDED.refuses("6: ended before slot", STATE, x -> x.hold(1, 0, 0, 8));
        ONE_ENDED.refuses("6: ended before empty", STATE, x -> x.hold(1, 0, 0, 1));
        ONE_ENDED.refuses("6: object before slot", ELEMENT, x -> x.hold(0, 12, 0, 8));
        ONE_ENDED.refuses("6: field and slot", INDEX, x -> x.hold(0, 0, 3, 8));
        ONE_ENDED.refuses("6: field before empty", INDEX, x -> x.hold(0, 0, 3, 1));
    }

    /** "Sets field f of OBJECT o of DOMAIN d to the CAPABILITY in SLOT s" */
    private static void promise6WhateverStoodThere() {
        for (int f : FIELDS) {
            Scene held = ALL_KINDS.then(x -> x.hold(0, 1, f, 0));
            held.tells("6: held over field " + f, 2, x -> x.holds(0, 1, f));
            held.tells("6: no link in field " + f, -1, x -> x.linked(0, 1, f));
            held.tells("6: the slot keeps it", 1, x -> x.slot(0, 0));
            held.then(x -> x.export(0, 0, 0, 0, 0)).answers("6: it stays when the slot has another",
                    0, x -> {
                        x.revoke(0, 0);
                        return x.holds(0, 1, f) - 2;
                    });
        }
    }

    /** "0 an int, 1 a link, 2 a CAPABILITY that is not DEAD, 3 a DEAD one" */
    private static void promise17Kinds() {
        ALL_KINDS.tells("17: an int", 0, x -> x.holds(0, 1, 0));
        ALL_KINDS.tells("17: a link", 1, x -> x.holds(0, 1, 1));
        ALL_KINDS.tells("17: a capability", 2, x -> x.holds(0, 1, 2));
        ALL_KINDS.then(x -> x.revoke(0, 0)).tells("17: revoked", 3, x -> x.holds(0, 1, 2));
        ALL_KINDS.then(x -> x.free(0, 0)).tells("17: its target freed", 3, x -> x.holds(0, 1, 2));
        ALL_KINDS.then(x -> x.free(0, 0)).tells("17: its target freed, a link", 0,
                x -> x.holds(0, 1, 1));
        Scene given = SIX.then(x -> {
            x.give(1, 0, 0, 1);
            x.narrow(0, 1, 0, 0);
            x.hold(0, 0, 0, 1);
        });
        given.tells("17: used up", 2, x -> x.holds(0, 0, 0));
        given.then(x -> x.end(1)).tells("17: its home ended", 3, x -> x.holds(0, 0, 0));
        given.then(x -> x.revoke(1, 0)).tells("17: its parent revoked", 3, x -> x.holds(0, 0, 0));
    }

    /** "-1 if there is none such" */
    private static void promise17NoneSuch() {
        noneSuch("17: holds", CapabilityDomains::holds);
        FULL.tellsEach("17: holds at object", 0, OBJECTS, (x, o) -> x.holds(0, o, 0));
        SIX.tellsEach("17: holds in domain", 0, DOMAINS, (x, d) -> x.holds(d, 0, 0));
        SIX.tellsEach("17: holds in field", 0, FIELDS, (x, f) -> x.holds(0, 0, f));
    }

    private static void noneSuch(String call, Setter asker) {
        SIX.tellsEach(call + " in domain", -1, NO_DOMAINS, (x, d) -> asker.put(x, d, 0, 0));
        ONE_ENDED.tellsEach(call + " in a domain ended or not yet made", -1, new int[] {1, 2, 5},
                (x, d) -> asker.put(x, d, 0, 0));
        FULL.tellsEach(call + " at object", -1, NO_OBJECTS, (x, o) -> asker.put(x, 0, o, 0));
        GAP.tellsEach(call + " at a freed object, or one not made", -1, new int[] {1, 3, 11},
                (x, o) -> asker.put(x, 0, o, 0));
        SIX.tellsEach(call + " in field", -1, NO_FIELDS, (x, f) -> asker.put(x, 0, 0, f));
        SIX.tells(call + ", all three wrong", -1, x -> asker.put(x, 6, 12, 3));
    }

    /** "The OBJECT to which field f of OBJECT o of DOMAIN d links" */
    private static void promise18TheObject() {
        for (int o : OBJECTS) {
            for (int t : OBJECTS) {
                for (int f : FIELDS) {
                    FULL.then(x -> x.link(0, o, f, t)).tells(
                            "18: linked from " + o + ", " + f + " to " + t, t,
                            x -> x.linked(0, o, f));
                }
            }
        }
        SIX.then(x -> x.link(5, 0, 2, 0)).tells("18: in the last domain", 0, x -> x.linked(5, 0, 2));
    }

    /** "-1 if it does not" */
    private static void promise18DoesNotLink() {
        ALL_KINDS.tells("18: an int that is 1", -1, x -> x.linked(0, 1, 0));
        ALL_KINDS.tells("18: a link", 0, x -> x.linked(0, 1, 1));
        ALL_KINDS.tells("18: a capability", -1, x -> x.linked(0, 1, 2));
        ALL_KINDS.then(x -> x.revoke(0, 0)).tells("18: a dead one", -1, x -> x.linked(0, 1, 2));
        Scene freed = ALL_KINDS.then(x -> x.free(0, 0));
        freed.tells("18: what it linked to was freed", -1, x -> x.linked(0, 1, 1));
        freed.then(x -> x.object(0)).tells("18: and has come again", -1, x -> x.linked(0, 1, 1));
    }

    /** "or there is none such" */
    private static void promise18NoneSuch() {
        noneSuch("18: linked", CapabilityDomains::linked);
    }
}
