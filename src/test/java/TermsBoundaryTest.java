/** The document's first words and its terms, at their limits: each test names its sentence. */
final class TermsBoundaryTest extends Limits {
    private static final Checks CHECKS = new Checks("TermsBoundaryTest");
    private static final Scene NEW = new Scene(CHECKS, x -> { });
    private static final Scene SIX = new Scene(CHECKS, Limits::sixDomains);
    private static final Scene FULL = SIX.then(x -> fill(x, 0));

    /** A capability for object 0 of domain 0, its child and its child's child, each used in domain 1. */
    private static final Scene FAMILY = new Scene(CHECKS, x -> {
        x.domain();
        x.domain();
        x.object(0);
        x.object(0);
        x.object(1);
        x.export(0, 0, 0, 31, -1);
        x.give(0, 0, 1, 0);
        x.give(0, 0, 1, 1);
        x.narrow(1, 1, 31, -1);
        x.give(1, 1, 1, 2);
        x.narrow(1, 2, 31, -1);
    });

    public static void main(String[] args) {
        lastCall();
        domainsOneAfterAnother();
        aliveUntilEnded();
        atMostTwelveObjects();
        leastFreeNumber();
        eightSlotsEmptyOrNot();
        fieldsAreIntsZeroAtFirst();
        linksStayInTheDomain();
        eachRightAlone();
        usesWithoutEnd();
        deadIfRevoked();
        deadIfTargetFreed();
        deadIfHomeEnded();
        deadIfParentDead();
        nothingElseIsDead();
        inSeveralSlotsAndFields();
        CHECKS.finish();
    }

    /** "An object is used for at most 512 calls after it has been made" */
    private static void lastCall() {
        NEW.answers("512th call", 91, x -> {
            x.domain();
            x.object(0);
            x.export(0, 0, 0, 2, 600);
            for (int calls = 3; calls < 511; calls++) {
                x.write(0, 0, 0, calls);
            }
            return x.write(0, 0, 0, 512);
        });
    }

    /** "DOMAINS 0 .. 5 are made one after another" */
    private static void domainsOneAfterAnother() {
        Scene ended = NEW.then(x -> {
            x.domain();
            x.domain();
            x.end(0);
        });
        ended.answers("an ended domain's number is not used again", 2, CapabilityDomains::domain);
        SIX.tellsEach("0 and 5 are domains", 1, DOMAINS, (x, d) -> x.slot(d, 0));
        SIX.tellsEach("no domain", -1, NO_DOMAINS, (x, d) -> x.slot(d, 0));
    }

    /** "each is alive until it is ended" */
    private static void aliveUntilEnded() {
        SIX.tells("all are alive", 6, x -> x.count(1));
        SIX.then(x -> x.end(5)).tells("the last has ended", 5, x -> x.count(1));
        SIX.then(x -> x.end(5)).refuses("the last", STATE, x -> x.object(5));
        SIX.then(x -> x.end(5)).answers("the one before it is alive", 1, x -> x.object(4));
        Scene none = SIX.then(x -> {
            for (int d = 0; d < 6; d++) {
                x.end(d);
            }
        });
        none.tells("none is alive", 0, x -> x.count(1));
        none.tells("all were made", 6, x -> x.count(0));
    }

    /** "A DOMAIN has at most 12 OBJECTS, numbered 0 .. 11" */
    private static void atMostTwelveObjects() {
        FULL.tells("12 objects", 12, x -> x.count(4));
        FULL.tellsEach("0 and 11 are there", 0, OBJECTS, (x, o) -> x.holds(0, o, 0));
        FULL.tellsEach("no object", -1, NO_OBJECTS, (x, o) -> x.holds(0, o, 0));
        FULL.refuses("a thirteenth", ARITHMETIC, x -> x.object(0));
        SIX.then(x -> addObjects(x, 0, 10)).answers("the twelfth", 11, x -> x.object(0));
        FULL.answers("each domain has its own", 1, x -> x.object(5));
    }

    /** "(a new one gets the least number that is free)" */
    private static void leastFreeNumber() {
        for (int freed = 0; freed < 12; freed++) {
            int o = freed;
            Scene gap = FULL.then(x -> freeBy(x, 0, o, 1));
            gap.answers("the only free number", o, x -> x.object(0));
            gap.then(x -> x.object(0)).refuses("full again", ARITHMETIC, x -> x.object(0));
        }
        Scene gaps = FULL.then(x -> {
            freeBy(x, 0, 11, 1);
            freeBy(x, 0, 4, 1);
            freeBy(x, 0, 7, 1);
        });
        gaps.answers("not the one freed last, nor first", 4, x -> x.object(0));
        gaps.then(x -> x.object(0)).answers("then the next", 7, x -> x.object(0));
        gaps.then(x -> addObjects(x, 0, 2)).answers("then the last", 11, x -> x.object(0));
    }

    /** "and 8 SLOTS 0 .. 7, each empty or with a CAPABILITY" */
    private static void eightSlotsEmptyOrNot() {
        Scene empty = NEW.then(CapabilityDomains::domain);
        empty.tellsEach("empty at first", 0, SLOTS, (x, s) -> x.slot(0, s));
        empty.tellsEach("no slot", -1, NO_SLOTS, (x, s) -> x.slot(0, s));
        Scene eight = SIX.then(x -> {
            for (int s = 0; s < 8; s++) {
                x.export(0, 0, s, 2, s + 1);
            }
        });
        for (int s = 0; s < 8; s++) {
            int at = s;
            eight.answers("each slot has its own", s, x -> x.write(0, at, 0, 1));
        }
    }

    /** "An OBJECT has three fields 0 .. 2, [...]; ints 0 at first." */
    private static void fieldsAreIntsZeroAtFirst() {
        SIX.tellsEach("an int at first", 0, FIELDS, (x, f) -> x.holds(0, 0, f));
        SIX.answersEach("0 at first", 0, FIELDS, (x, f) -> x.set(0, 0, f, 1));
        SIX.tellsEach("no field", -1, NO_FIELDS, (x, f) -> x.holds(0, 0, f));
        Scene again = SIX.then(x -> {
            x.object(0);
            x.set(0, 1, 0, 9);
            x.link(0, 1, 1, 0);
            x.hold(0, 1, 2, 0);
            freeBy(x, 0, 1, 1);
            x.object(0);
        });
        again.tellsEach("an int, though the number had another", 0, FIELDS,
                (x, f) -> x.holds(0, 1, f));
        again.answersEach("0, though the number had another", 0, FIELDS,
                (x, f) -> x.set(0, 1, f, 1));
    }

    /** "a link to an OBJECT of the same DOMAIN" */
    private static void linksStayInTheDomain() {
        Scene other = SIX.then(x -> x.object(1));
        other.answers("its own object 1", 0, x -> x.link(1, 0, 0, 1));
        other.refuses("another domain's object 1", ELEMENT, x -> x.link(0, 0, 0, 1));
    }

    /** "RIGHTS (sum of 1 read, 2 write, 4 pass, 8 take, 16 free)" */
    private static void eachRightAlone() {
        Scene.NumberCall[] calls = {(x, s) -> x.read(0, s, 0), (x, s) -> x.write(0, s, 0, 5),
            (x, s) -> x.pass(0, s, 0, 0), (x, s) -> x.take(0, s, 2, 6), (x, s) -> x.free(0, s)};
        int[] due = {0, -1, 1, 0, 0};
        for (int r = 0; r < 5; r++) {
            int right = 1 << r;
            Scene scene = SIX.then(x -> {
                x.hold(0, 0, 2, 0);
                x.export(0, 0, 1, right, -1);
                x.export(0, 0, 2, 31 - right, -1);
            });
            for (int c = 0; c < 5; c++) {
                Scene.NumberCall call = calls[c];
                int has = c == r ? 1 : 2;
                int lacks = c == r ? 2 : 1;
                scene.answers("call " + c + " with the right, right " + right, due[c],
                        x -> call.on(x, has));
                scene.refuses("call " + c + " without the right, right " + right, RIGHT,
                        x -> call.on(x, lacks));
            }
        }
    }

    /** "a number of USES left (-1: without end)" */
    private static void usesWithoutEnd() {
        SIX.answers("after 400 uses", -1, x -> {
            for (int i = 0; i < 400; i++) {
                x.write(0, 0, 0, i);
            }
            return x.write(0, 0, 0, 0);
        });
        SIX.then(x -> x.export(0, 0, 0, 2, MOST)).answers("the most uses", MOST - 1,
                x -> x.write(0, 0, 0, 0));
        SIX.then(x -> x.export(0, 0, 0, 2, 1)).answers("the last use", 0,
                x -> x.write(0, 0, 0, 0));
        SIX.then(x -> x.export(0, 0, 0, 2, 0)).refuses("no use", STATE, x -> x.write(0, 0, 0, 0));
    }

    /** "It is DEAD if it was revoked" */
    private static void deadIfRevoked() {
        Scene revoked = FAMILY.then(x -> x.revoke(0, 0));
        revoked.tells("revoked", 2, x -> x.slot(0, 0));
        revoked.tells("revoked, where it was given", 2, x -> x.slot(1, 0));
    }

    /** "or its target was freed" */
    private static void deadIfTargetFreed() {
        Scene freed = FAMILY.then(x -> {
            x.export(0, 1, 1, 31, -1);
            x.free(1, 0);
        });
        freed.tells("target freed", 2, x -> x.slot(0, 0));
        freed.tells("another target", 1, x -> x.slot(0, 1));
        freed.then(x -> x.object(0)).tells("a new object of that number", 2, x -> x.slot(0, 0));
        freed.then(x -> x.object(0)).tells("no more live by it", 1, x -> x.count(3));
    }

    /** "or its home has ended" */
    private static void deadIfHomeEnded() {
        Scene ended = FAMILY.then(x -> {
            x.export(1, 0, 7, 31, -1);
            x.end(0);
        });
        ended.tells("home ended", 2, x -> x.slot(1, 0));
        ended.tells("another home", 1, x -> x.slot(1, 7));
    }

    /** "or its parent is DEAD" */
    private static void deadIfParentDead() {
        Scene revoked = FAMILY.then(x -> x.revoke(0, 0));
        revoked.tells("parent revoked", 2, x -> x.slot(1, 1));
        revoked.tells("parent's parent revoked", 2, x -> x.slot(1, 2));
        Scene deep = SIX.then(x -> {
            x.give(0, 0, 1, 1);
            narrowBy(x, 1, 1, 34);
        });
        deep.tells("34 generations", 1, x -> x.slot(1, 1));
        deep.answers("34 generations die at once", 35, x -> x.revoke(0, 0));
        deep.then(x -> x.revoke(0, 0)).tells("the last of them", 2, x -> x.slot(1, 1));
        deep.then(x -> x.free(0, 0)).tells("the last of them, freed", 2, x -> x.slot(1, 1));
        deep.then(x -> x.end(0)).tells("the last of them, ended", 2, x -> x.slot(1, 1));
    }

    /** "It is DEAD if": and else it is not. */
    private static void nothingElseIsDead() {
        Scene child = FAMILY.then(x -> {
            x.give(1, 1, 0, 1);
            x.revoke(0, 1);
        });
        child.tells("a dead child's parent", 1, x -> x.slot(1, 0));
        child.tells("a dead child's child", 2, x -> x.slot(1, 2));
        FAMILY.then(x -> x.end(1)).tells("the domain that was given it ends", 1, x -> x.slot(0, 0));
        FAMILY.then(x -> x.end(1)).tells("and its children live, too", 3, x -> x.count(3));
        SIX.then(x -> x.export(0, 0, 0, 0, 0)).tells("used up", 1, x -> x.slot(0, 0));
        Scene nowhere = NEW.then(x -> {
            x.domain();
            x.object(0);
            x.export(0, 0, 0, 31, -1);
            x.export(0, 0, 0, 31, -1);
        });
        nowhere.tells("in no slot and no field", 2, x -> x.count(3));
    }

    /** "The same CAPABILITY can be in several SLOTS and fields." */
    private static void inSeveralSlotsAndFields() {
        Scene several = SIX.then(x -> {
            x.export(0, 0, 1, 31, 2);
            x.give(0, 1, 0, 2);
            x.give(0, 1, 1, 2);
            x.hold(0, 0, 0, 1);
            x.hold(0, 0, 1, 1);
            x.give(0, 1, 1, 3);
            x.hold(1, 0, 0, 3);
            x.write(0, 1, 2, 0);
        });
        several.answers("one use less in another slot", 0, x -> x.write(0, 2, 2, 0));
        several.answers("one use less in another domain", 0, x -> x.write(1, 2, 2, 0));
        several.answers("one use less in a field", 0, x -> {
            x.take(1, 0, 0, 4);
            return x.write(1, 4, 2, 0);
        });
        several.answers("it dies but once", 1, x -> x.revoke(0, 2));
        Scene revoked = several.then(x -> x.revoke(0, 2));
        revoked.tells("dead in a field", 3, x -> x.holds(0, 0, 0));
        revoked.tells("dead in another field", 3, x -> x.holds(0, 0, 1));
        revoked.tells("dead in another domain's field", 3, x -> x.holds(1, 0, 0));
    }
}
