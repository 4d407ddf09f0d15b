/** Promises 11, 12, 14 and 15 at their limits, behind USING: each test names its sentence. */
final class TargetBoundaryTest extends Limits {
    private static final Checks CHECKS = new Checks("TargetBoundaryTest");
    private static final Scene SIX = new Scene(CHECKS, Limits::sixDomains);

    /**
     * Domain 1 reaches object 1 of domain 0 by its slot 1, with two uses, of three that the parent
     * in slot 1 of domain 0 has. The object's fields hold the int 9, a link to object 0, and a
     * capability for object 0 with three uses.
     */
    private static final Scene KINDS = SIX.then(x -> {
        x.object(0);
        x.set(0, 1, 0, 9);
        x.link(0, 1, 1, 0);
        x.export(0, 0, 2, 31, 3);
        x.hold(0, 1, 2, 2);
        x.export(0, 1, 1, 31, 3);
        x.give(0, 1, 1, 1);
        x.narrow(1, 1, 31, 2);
    });
    private static final Scene KINDS_DEAD = KINDS.then(x -> x.revoke(0, 2));

    public static void main(String[] args) {
        promise11TheInt();
        promise11NoSuchField();
        promise11NoInt();
        promise12BecomesTheInt();
        promise12HowManyUsesAreLeft();
        promise12NoSuchField();
        promise14ComesIntoTheSlot();
        promise14OneIfThereWasOne();
        promise14NoSuchFieldOrSlot();
        promise14NoCapability();
        promise14InOrder();
        promise15NotThereAnyMore();
        promise15LinksBecomeZero();
        promise15HowManyLinksDid();
        CHECKS.finish();
    }

    /** "the int in field f of the target" */
    private static void promise11TheInt() {
        SIX.answersEach("11: 0 at first, field", 0, FIELDS, (x, f) -> x.read(0, 0, f));
        for (int v : new int[] {LEAST, -1, 0, MOST}) {
            for (int f : FIELDS) {
                Scene set = SIX.then(x -> {
                    x.object(0);
                    x.set(0, 0, f, v);
                    x.set(0, 1, f, 3);
                    x.set(1, 0, f, 4);
                    x.give(0, 0, 1, 1);
                });
                set.answers("11: " + v + " in field " + f, v, x -> x.read(1, 1, f));
            }
        }
    }

    /** "IndexOutOfBoundsException: no such field" */
    private static void promise11NoSuchField() {
        SIX.refusesEach("11: field", INDEX, NO_FIELDS, (x, f) -> x.read(0, 0, f));
        KINDS.refusesEach("11: by one with two uses, field", INDEX, NO_FIELDS,
                (x, f) -> x.read(1, 1, f));
    }

    /** "ArithmeticException: the field holds no int" */
    private static void promise11NoInt() {
        KINDS.answers("11: an int", 9, x -> x.read(1, 1, 0));
        KINDS.refuses("11: a link", ARITHMETIC, x -> x.read(1, 1, 1));
        KINDS.refuses("11: a capability", ARITHMETIC, x -> x.read(1, 1, 2));
        KINDS_DEAD.refuses("11: a dead one", ARITHMETIC, x -> x.read(1, 1, 2));
        KINDS.then(x -> x.free(0, 0)).answers("11: a link to what was freed", 0,
                x -> x.read(1, 1, 1));
    }

    /** "field f of the target becomes the int v" */
    private static void promise12BecomesTheInt() {
        for (int v : new int[] {LEAST, -1, 0, MOST}) {
            for (int f : FIELDS) {
                Scene written = KINDS.then(x -> x.write(1, 1, f, v));
                String at = "12: " + v + " in field " + f;
                written.answers(at, v, x -> x.set(0, 1, f, 0));
                written.tells(at + ", an int", 0, x -> x.holds(0, 1, f));
                written.tells(at + ", no link", -1, x -> x.linked(0, 1, f));
                written.answers(at + ", not another object's", 0, x -> x.set(0, 0, f, 0));
                written.answers(at + ", not another domain's", 0, x -> x.set(1, 0, f, 0));
            }
        }
    }

    /** "how many USES the CAPABILITY has left then (-1: without end)" */
    private static void promise12HowManyUsesAreLeft() {
        SIX.answers("12: without end", -1, x -> x.write(0, 0, 0, 1));
        KINDS.answers("12: one left", 1, x -> x.write(1, 1, 0, 1));
        KINDS.then(x -> x.write(1, 1, 0, 1)).answers("12: none left", 0, x -> x.write(1, 1, 0, 1));
        KINDS.then(x -> x.read(1, 1, 0)).answers("12: the use before was a read", 0,
                x -> x.write(1, 1, 0, 1));
        KINDS.then(x -> x.read(1, 1, 0)).answers("12: the parent's", 1, x -> x.write(0, 1, 0, 1));
        SIX.then(x -> x.export(0, 0, 1, 2, MOST)).answers("12: the most", MOST - 1,
                x -> x.write(0, 1, 0, 1));
        KINDS.then(x -> x.narrow(1, 1, 2, -1)).answers("12: its own, not its parent's", -1,
                x -> x.write(1, 1, 0, 1));
        KINDS.then(x -> x.narrow(1, 1, 2, 9)).answers("12: more than its parent's", 8,
                x -> x.write(1, 1, 0, 1));
    }

    /** "Then IndexOutOfBoundsException as in read." */
    private static void promise12NoSuchField() {
        SIX.answersEach("12: field", -1, FIELDS, (x, f) -> x.write(0, 0, f, 1));
        SIX.refusesEach("12: field", INDEX, NO_FIELDS, (x, f) -> x.write(0, 0, f, 1));
        KINDS.refusesEach("12: by one with two uses, field", INDEX, NO_FIELDS,
                (x, f) -> x.write(1, 1, f, 1));
    }

    /** "the CAPABILITY in field f of the target comes into SLOT t of DOMAIN d" */
    private static void promise14ComesIntoTheSlot() {
        Scene taken = KINDS.then(x -> x.take(1, 1, 2, 5));
        taken.answers("14: that one", 2, x -> x.write(1, 5, 0, 7));
        taken.answers("14: the same as in the home", 1, x -> {
            x.write(1, 5, 0, 7);
            return x.write(0, 2, 0, 7);
        });
        taken.tells("14: the field keeps it", 2, x -> x.holds(0, 1, 2));
        taken.tells("14: not into the home's slot", 0, x -> x.slot(0, 5));
        Scene dead = KINDS_DEAD.then(x -> x.take(1, 1, 2, 5));
        dead.tells("14: a dead one, too", 2, x -> x.slot(1, 5));
        for (int f : FIELDS) {
            SIX.then(x -> x.hold(0, 0, f, 0)).answers("14: out of field " + f, 0,
                    x -> x.take(0, 0, f, 5));
        }
        Scene over = KINDS.then(x -> x.take(1, 1, 2, 1));
        over.answers("14: in place of the one that is used", 2, x -> x.write(1, 1, 0, 7));
        over.answers("14: whose parent has one use less", 1, x -> x.write(0, 1, 0, 7));
        Scene itself = SIX.then(x -> {
            x.export(0, 0, 1, 31, 2);
            x.hold(0, 0, 2, 1);
            x.take(0, 1, 2, 5);
        });
        itself.answers("14: itself, with one use less", 0, x -> x.write(0, 5, 0, 7));
    }

    /** "1 if t had one before, else 0" */
    private static void promise14OneIfThereWasOne() {
        KINDS.answers("14: t empty", 0, x -> x.take(1, 1, 2, 5));
        KINDS.answers("14: t had one", 1, x -> x.take(1, 1, 2, 0));
        KINDS.then(x -> x.revoke(1, 0)).answers("14: t had a dead one", 1, x -> x.take(1, 1, 2, 0));
        KINDS.answers("14: t had the one that is used", 1, x -> x.take(1, 1, 2, 1));
    }

    /** "IndexOutOfBoundsException: no such field or SLOT" */
    private static void promise14NoSuchFieldOrSlot() {
        KINDS.refusesEach("14: field", INDEX, NO_FIELDS, (x, f) -> x.take(1, 1, f, 5));
        KINDS.answersEach("14: slot", 1, SLOTS, (x, t) -> x.take(1, 1, 2, t));
        KINDS.refusesEach("14: slot", INDEX, NO_SLOTS, (x, t) -> x.take(1, 1, 2, t));
        KINDS.refuses("14: neither", INDEX, x -> x.take(1, 1, 3, 8));
    }

    /** "ArithmeticException: the field holds no CAPABILITY" */
    private static void promise14NoCapability() {
        KINDS.refuses("14: an int", ARITHMETIC, x -> x.take(1, 1, 0, 5));
        KINDS.refuses("14: a link", ARITHMETIC, x -> x.take(1, 1, 1, 5));
        KINDS.refuses("14: an int, into a slot that has one", ARITHMETIC, x -> x.take(1, 1, 0, 0));
    }

    /** "Then: IndexOutOfBoundsException [...]; ArithmeticException" */
    private static void promise14InOrder() {
        KINDS.refusesEach("14: before an int, slot", INDEX, NO_SLOTS, (x, t) -> x.take(1, 1, 0, t));
        KINDS.refusesEach("14: before a link, slot", INDEX, NO_SLOTS, (x, t) -> x.take(1, 1, 1, t));
    }

    /** "the target is not there any more" */
    private static void promise15NotThereAnyMore() {
        Scene freed = KINDS.then(x -> x.free(1, 1));
        freed.tellsEach("15: no field", -1, FIELDS, (x, f) -> x.holds(0, 1, f));
        freed.tells("15: one object less", 1, x -> x.count(4));
        freed.tells("15: none less in the domain that freed", 1, x -> x.count(5));
        freed.refuses("15: no such object", ELEMENT, x -> x.set(0, 1, 0, 0));
        freed.refuses("15: none to link to", ELEMENT, x -> x.link(0, 0, 0, 1));
        freed.refuses("15: none to export", ELEMENT, x -> x.export(0, 1, 0, 0, 0));
        freed.refuses("15: none to pass", ELEMENT, x -> x.pass(0, 0, 0, 1));
        freed.refuses("15: not twice", STATE, x -> x.free(1, 1));
        freed.tells("15: what it held lives", 1, x -> x.slot(0, 2));
        freed.answers("15: its number is free", 1, x -> x.object(0));
        SIX.then(x -> x.free(0, 0)).tells("15: the only object", 0, x -> x.count(4));
        KINDS.then(x -> x.narrow(1, 1, 16, 1)).answers("15: by the last use", 0, x -> x.free(1, 1));
    }

    /** "links to it become the int 0" */
    private static void promise15LinksBecomeZero() {
        Scene linked = SIX.then(x -> {
            addObjects(x, 0, 2);
            addObjects(x, 1, 2);
            for (int f : FIELDS) {
                x.link(0, 0, f, 1);
                x.link(0, 2, f, f);
                x.link(1, 0, f, 1);
            }
            freeBy(x, 0, 1, 1);
        });
        linked.tellsEach("15: an int now, field", 0, FIELDS, (x, f) -> x.holds(0, 0, f));
        linked.answersEach("15: the int 0, field", 0, FIELDS, (x, f) -> x.set(0, 0, f, 5));
        linked.answersEach("15: that can be read, field", 0, FIELDS, (x, f) -> x.read(0, 0, f));
        linked.tells("15: behind it, too", 0, x -> x.holds(0, 2, 1));
        linked.tells("15: links to others stay", 0, x -> x.linked(0, 2, 0));
        linked.tells("15: and to itself", 2, x -> x.linked(0, 2, 2));
        linked.tellsEach("15: another domain's stay, field", 1, FIELDS, (x, f) -> x.linked(1, 0, f));
        linked.then(x -> x.object(0)).tellsEach("15: ints when its number is used again, field", 0,
                FIELDS, (x, f) -> x.holds(0, 0, f));
    }

    /** "How many links did." */
    private static void promise15HowManyLinksDid() {
        SIX.answers("15: none", 0, x -> x.free(0, 0));
        KINDS.answers("15: one", 1, x -> x.free(0, 0));
        Scene most = SIX.then(x -> {
            fill(x, 0);
            for (int o = 1; o < 12; o++) {
                for (int f : FIELDS) {
                    x.link(0, o, f, 0);
                }
            }
        });
        most.answers("15: the most", 33, x -> x.free(0, 0));
        most.then(x -> x.set(0, 11, 2, 0)).answers("15: one less", 32, x -> x.free(0, 0));
        most.then(x -> x.link(0, 0, 0, 0)).answers("15: its own goes with it", 33,
                x -> x.free(0, 0));
        Scene held = SIX.then(x -> {
            x.object(0);
            x.hold(0, 1, 0, 0);
            x.set(0, 1, 1, 0);
        });
        held.answers("15: capabilities and ints are no links", 0, x -> x.free(0, 0));
        Scene before = SIX.then(x -> {
            x.object(0);
            x.link(0, 1, 0, 0);
            x.free(0, 0);
            x.object(0);
            x.export(0, 0, 0, 31, -1);
        });
        before.answers("15: not those to the one before it", 0, x -> x.free(0, 0));
    }
}
