/** Promise 13 at its limits, behind USING: each test names its sentence. */
final class PassBoundaryTest extends Limits {
    private static final Checks CHECKS = new Checks("PassBoundaryTest");
    private static final Scene SIX = new Scene(CHECKS, Limits::sixDomains);
    /**
     * Domain 0 reaches object 0 of domain 1, that one's only object, by slot 1, with two uses, of
     * three that the parent has. The object's fields are 4, 5 and 6.
     */
    private static final Scene INTO_1 = SIX.then(x -> {
        for (int f : FIELDS) {
            x.set(1, 0, f, 4 + f);
        }
        x.export(1, 0, 1, 31, 3);
        x.give(1, 1, 0, 1);
        x.narrow(0, 1, 31, 2);
    });

    public static void main(String[] args) {
        copiedEachOnce();
        allThatAreReached();
        linksAmongThem();
        intsAndCapabilities();
        fieldBecomesALink();
        ordersOfNumbers();
        numbersFillGaps();
        noSuchField();
        noSuchObject();
        moreThanTwelve();
        moreThanTwelveInItsOwnDomain();
        inOrder();
        CHECKS.finish();
    }

    /** Objects 0 .. length - 1 of a domain that has one object, each with a link to the next. */
    private static void chain(CapabilityDomains x, int d, int length) {
        addObjects(x, d, length - 1);
        for (int o = 0; o < length - 1; o++) {
            x.link(d, o, 1, o + 1);
        }
    }

    /** "are copied into the home, each once" */
    private static void copiedEachOnce() {
        INTO_1.answers("an object alone", 1, x -> x.pass(0, 1, 0, 0));
        Scene self = INTO_1.then(x -> x.link(0, 0, 2, 0));
        self.answers("linked to itself", 1, x -> x.pass(0, 1, 0, 0));
        Scene ring = INTO_1.then(x -> {
            chain(x, 0, 11);
            x.link(0, 10, 2, 0);
        });
        for (int o = 0; o < 11; o++) {
            int first = o;
            ring.answers("a ring of eleven from " + o, 11, x -> x.pass(0, 1, 0, first));
        }
        Scene thrice = INTO_1.then(x -> {
            x.object(0);
            for (int f : FIELDS) {
                x.link(0, 0, f, 1);
            }
        });
        thrice.answers("three links to one", 2, x -> x.pass(0, 1, 0, 0));
        Scene mesh = INTO_1.then(x -> {
            addObjects(x, 0, 2);
            for (int o = 0; o < 3; o++) {
                for (int f : FIELDS) {
                    x.link(0, o, f, f);
                }
            }
        });
        mesh.answers("all linked to all", 3, x -> x.pass(0, 1, 0, 1));
        Scene twice = INTO_1.then(x -> x.pass(0, 1, 0, 0));
        twice.answers("once in each call", 1, x -> x.pass(0, 1, 0, 0));
        twice.then(x -> x.pass(0, 1, 0, 0)).tells("so two copies", 3, x -> x.count(5));
        twice.tells("the source is not moved", 1, x -> x.count(4));
        Scene former = INTO_1.then(x -> {
            addObjects(x, 0, 2);
            x.link(0, 1, 0, 2);
            x.pass(0, 1, 0, 1);
            x.set(1, 2, 0, 8);
            x.pass(0, 1, 0, 0);
        });
        former.answers("no copy of a call before is copied again", 8, x -> x.set(1, 2, 0, 0));
    }

    /** "the OBJECT o of DOMAIN d, and all OBJECTS that are reached from it by links" */
    private static void allThatAreReached() {
        Scene chain = INTO_1.then(x -> chain(x, 0, 11));
        chain.answers("from the first", 11, x -> x.pass(0, 1, 0, 0));
        chain.answers("from the last but one", 2, x -> x.pass(0, 1, 0, 9));
        chain.answers("from the last", 1, x -> x.pass(0, 1, 0, 10));
        Scene held = INTO_1.then(x -> {
            addObjects(x, 0, 1);
            x.export(0, 1, 2, 31, -1);
            x.hold(0, 0, 0, 2);
        });
        held.answers("not by a capability", 1, x -> x.pass(0, 1, 0, 0));
        Scene cut = chain.then(x -> freeBy(x, 0, 5, 2));
        cut.answers("not beyond a freed one", 5, x -> x.pass(0, 1, 0, 0));
        SIX.then(x -> x.give(1, 0, 2, 1)).then(x -> addObjects(x, 1, 1)).then(
                x -> x.link(1, 0, 0, 1)).answers("of the passing domain, not the home", 1,
                x -> x.pass(2, 1, 0, 0));
    }

    /** "links among them as they are" */
    private static void linksAmongThem() {
        Scene passed = INTO_1.then(x -> {
            addObjects(x, 0, 2);
            x.link(0, 1, 0, 2);
            x.link(0, 1, 2, 1);
            x.link(0, 2, 1, 1);
            x.pass(0, 1, 0, 1);
        });
        passed.tells("forward", 2, x -> x.linked(1, 1, 0));
        passed.tells("none where there was none", -1, x -> x.linked(1, 1, 1));
        passed.tells("to itself", 1, x -> x.linked(1, 1, 2));
        passed.tells("back", 1, x -> x.linked(1, 2, 1));
        passed.tells("the source's forward", 2, x -> x.linked(0, 1, 0));
        passed.tells("the source's back", 1, x -> x.linked(0, 2, 1));
        passed.then(x -> freeBy(x, 0, 2, 2)).tells("the copy's when the source's is freed", 2,
                x -> x.linked(1, 1, 0));
    }

    /** "ints and CAPABILITIES as they are" */
    private static void intsAndCapabilities() {
        Scene passed = INTO_1.then(x -> {
            x.export(0, 0, 2, 31, 2);
            x.set(0, 0, 0, LEAST);
            x.set(0, 0, 1, MOST);
            x.hold(0, 0, 2, 2);
            x.pass(0, 1, 0, 0);
        });
        passed.answers("the least int", LEAST, x -> x.set(1, 1, 0, 0));
        passed.answers("the greatest int", MOST, x -> x.set(1, 1, 1, 0));
        passed.then(x -> x.set(1, 1, 0, 4)).answers("the source's stays", LEAST,
                x -> x.set(0, 0, 0, 0));
        passed.tells("a capability", 2, x -> x.holds(1, 1, 2));
        passed.answers("the same capability", 0, x -> {
            x.write(0, 2, 0, 0);
            x.export(1, 1, 3, 8, -1);
            x.take(1, 3, 2, 4);
            return x.write(1, 4, 0, 0);
        });
        passed.tells("no new one is made", 9, x -> x.count(2));
        passed.then(x -> x.revoke(0, 2)).tells("dead, as the source's is", 3, x -> x.holds(1, 1, 2));
        Scene dead = INTO_1.then(x -> {
            x.hold(0, 0, 2, 0);
            x.revoke(0, 0);
            x.pass(0, 1, 0, 0);
        });
        dead.tells("a dead one", 3, x -> x.holds(1, 1, 2));
    }

    /** "field f of the target becomes a link to the copy of o" */
    private static void fieldBecomesALink() {
        Scene kinds = INTO_1.then(x -> {
            x.link(1, 0, 1, 0);
            x.hold(1, 0, 2, 1);
        });
        for (int f : FIELDS) {
            Scene passed = kinds.then(x -> x.pass(0, 1, f, 0));
            passed.tells("field " + f, 1, x -> x.linked(1, 0, f));
            passed.tells("a link in field " + f, 1, x -> x.holds(1, 0, f));
            passed.answers("no int beside the link in field " + f, 0, x -> x.set(1, 0, f, 0));
        }
        // The target is among the copied: its copy is as the target was before its field was set.
        Scene own = SIX.then(x -> x.link(0, 0, 0, 0)).then(x -> x.pass(0, 0, 0, 0));
        own.tells("in its own domain", 1, x -> x.linked(0, 0, 0));
        own.tells("the copy of a link to itself", 1, x -> x.linked(0, 1, 0));
        Scene number = SIX.then(x -> x.set(0, 0, 0, 4)).then(x -> x.pass(0, 0, 0, 0));
        number.answers("the copy of the target's int", 4, x -> x.set(0, 1, 0, 0));
    }

    /** "in the order in which they are first come to: o first; an OBJECT's fields 0, 1, 2 in order, [...]" */
    private static void ordersOfNumbers() {
        // Object 5 has 3, 1 and 4 on its fields, 3 has 2 on field 2, and 2 has 4 and 0 on 0 and 1.
        Scene tree = INTO_1.then(x -> {
            addObjects(x, 0, 5);
            x.link(0, 5, 0, 3);
            x.link(0, 5, 1, 1);
            x.link(0, 5, 2, 4);
            x.link(0, 3, 2, 2);
            x.link(0, 2, 0, 4);
            x.link(0, 2, 1, 0);
            x.link(0, 0, 0, 5);
            x.pass(0, 1, 0, 5);
        });
        int[][] due = {{2, 6, 4}, {-1, -1, 3}, {4, 5, -1}, {-1, -1, -1}, {1, -1, -1}, {-1, -1, -1}};
        for (int copy = 1; copy <= 6; copy++) {
            for (int f : FIELDS) {
                int o = copy;
                tree.tells("copy " + copy + ", field " + f, due[copy - 1][f],
                        x -> x.linked(1, o, f));
            }
        }
        tree.tells("o first", 1, x -> x.linked(1, 0, 0));
    }

    /** "The copies get their numbers": the least that are free, as new objects do. */
    private static void numbersFillGaps() {
        Scene gaps = INTO_1.then(x -> {
            fill(x, 1);
            freeBy(x, 1, 11, 2);
            freeBy(x, 1, 3, 2);
            freeBy(x, 1, 7, 2);
            chain(x, 0, 3);
            x.pass(0, 1, 0, 0);
        });
        gaps.tells("the least", 3, x -> x.linked(1, 0, 0));
        gaps.tells("the next", 7, x -> x.linked(1, 3, 1));
        gaps.tells("the last", 11, x -> x.linked(1, 7, 1));
        Scene reused = INTO_1.then(x -> {
            x.object(1);
            x.set(1, 1, 0, 5);
            x.link(1, 1, 1, 0);
            x.hold(1, 1, 2, 0);
            freeBy(x, 1, 1, 2);
            x.pass(0, 1, 0, 0);
        });
        reused.tellsEach("nothing of the one before, field", 0, FIELDS, (x, f) -> x.holds(1, 1, f));
        reused.answersEach("no int of the one before, field", 0, FIELDS,
                (x, f) -> x.set(1, 1, f, 0));
    }

    /** "Then: IndexOutOfBoundsException: no such field" */
    private static void noSuchField() {
        INTO_1.answersEach("field", 1, FIELDS, (x, f) -> x.pass(0, 1, f, 0));
        INTO_1.refusesEach("field", INDEX, NO_FIELDS, (x, f) -> x.pass(0, 1, f, 0));
    }

    /** "NoSuchElementException: no such OBJECT" */
    private static void noSuchObject() {
        Scene full = INTO_1.then(x -> fill(x, 0));
        full.answersEach("object", 1, OBJECTS, (x, o) -> x.pass(0, 1, 0, o));
        full.refusesEach("object", ELEMENT, NO_OBJECTS, (x, o) -> x.pass(0, 1, 0, o));
        full.then(x -> freeBy(x, 0, 5, 2)).refuses("a freed one", ELEMENT, x -> x.pass(0, 1, 0, 5));
        INTO_1.then(x -> x.object(1)).refuses("the home's, not the passing domain's", ELEMENT,
                x -> x.pass(0, 1, 0, 1));
    }

    /** "ArithmeticException: the home would have more than 12 OBJECTS" */
    private static void moreThanTwelve() {
        INTO_1.then(x -> chain(x, 0, 11)).answers("1 and 11", 11, x -> x.pass(0, 1, 0, 0));
        INTO_1.then(x -> chain(x, 0, 12)).refuses("1 and 12", ARITHMETIC, x -> x.pass(0, 1, 0, 0));
        Scene eleven = INTO_1.then(x -> addObjects(x, 1, 10));
        eleven.answers("11 and 1", 1, x -> x.pass(0, 1, 0, 0));
        eleven.then(x -> chain(x, 0, 2)).refuses("11 and 2", ARITHMETIC, x -> x.pass(0, 1, 0, 0));
        Scene twelve = INTO_1.then(x -> fill(x, 1));
        twelve.refuses("12 and 1", ARITHMETIC, x -> x.pass(0, 1, 0, 0));
        twelve.then(x -> freeBy(x, 1, 11, 2)).answers("12 before, and 1", 1,
                x -> x.pass(0, 1, 0, 0));
        INTO_1.then(x -> fill(x, 0)).answers("12 in the passing domain, 1 of them passed", 1,
                x -> x.pass(0, 1, 0, 0));
    }

    /** The same, where the home is the passing domain. */
    private static void moreThanTwelveInItsOwnDomain() {
        SIX.then(x -> chain(x, 0, 6)).answers("6 and 6", 6, x -> x.pass(0, 0, 0, 0));
        SIX.then(x -> chain(x, 0, 7)).refuses("7 and 7", ARITHMETIC, x -> x.pass(0, 0, 0, 0));
        SIX.then(x -> chain(x, 0, 7)).answers("7 and 5", 5, x -> x.pass(0, 0, 0, 2));
        SIX.then(x -> fill(x, 0)).refuses("12 and 1, its own", ARITHMETIC, x -> x.pass(0, 0, 0, 0));
    }

    /** "Then: IndexOutOfBoundsException [...]; NoSuchElementException [...]; ArithmeticException" */
    private static void inOrder() {
        Scene full = INTO_1.then(x -> fill(x, 1));
        full.refuses("field before object and room", INDEX, x -> x.pass(0, 1, 3, 12));
        full.refuses("field before object", INDEX, x -> x.pass(0, 1, -1, 1));
        full.refuses("field before room", INDEX, x -> x.pass(0, 1, 3, 0));
        full.refuses("object before room", ELEMENT, x -> x.pass(0, 1, 0, 1));
    }
}
