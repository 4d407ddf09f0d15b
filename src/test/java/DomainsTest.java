/** Promises 1, 2, 3, 16 and 20: what is made, what ends, and what is counted. */
final class DomainsTest {
    private static final Class<IllegalArgumentException> ARGUMENT = IllegalArgumentException.class;
    private static final Class<IllegalStateException> STATE = IllegalStateException.class;
    private static final Checks CHECKS = new Checks("DomainsTest");

    public static void main(String[] args) {
        promise1NewObject();
        promise2Domain();
        promise3Object();
        promise3ObjectTakesTheLeastFreeNumber();
        promise16End();
        promise16EndTakesBackWhatWasGiven();
        promise16EndKeepsWhatOthersGave();
        promise20Count();
        CHECKS.finish();
    }

    private static void promise1NewObject() {
        CapabilityDomains x = new CapabilityDomains();
        for (int what = 0; what <= 9; what++) {
            int asked = what;
            CHECKS.answers("1: count(" + asked + ")", 0, () -> x.count(asked));
        }
        CHECKS.answers("1: slot", -1, () -> x.slot(0, 0));
        CHECKS.refuses("1: object", ARGUMENT, () -> x.object(0));
        CapabilityDomains other = new CapabilityDomains();
        other.domain();
        CHECKS.answers("1: objects share nothing", 0, () -> x.count(0));
    }

    private static void promise2Domain() {
        CapabilityDomains x = new CapabilityDomains();
        for (int d = 0; d < 6; d++) {
            CHECKS.answers("2: domain", d, x::domain);
        }
        CHECKS.refuses("2: seventh domain", STATE, x::domain);
        x.end(3);
        CHECKS.refuses("2: an ended domain is made all the same", STATE, x::domain);
        CHECKS.answers("2: a refused domain is not counted", 6, () -> x.count(0));
    }

    private static void promise3Object() {
        CapabilityDomains x = new CapabilityDomains();
        x.domain();
        x.domain();
        for (int o = 0; o < 12; o++) {
            CHECKS.answers("3: object", o, () -> x.object(1));
        }
        CHECKS.refuses("3: thirteenth object", ArithmeticException.class, () -> x.object(1));
        CHECKS.answers("3: the other domain has its own numbers", 0, () -> x.object(0));
        CHECKS.refuses("3: domain -1", ARGUMENT, () -> x.object(-1));
        CHECKS.refuses("3: domain 2", ARGUMENT, () -> x.object(2));
        CHECKS.refuses("3: greatest int", ARGUMENT, () -> x.object(Integer.MAX_VALUE));
        x.end(1);
        CHECKS.refuses("3: ended", STATE, () -> x.object(1));
    }

    private static void promise3ObjectTakesTheLeastFreeNumber() {
        CapabilityDomains x = new CapabilityDomains();
        x.domain();
        for (int o = 0; o < 4; o++) {
            x.object(0);
        }
        x.set(0, 1, 0, 77);
        x.set(0, 1, 1, 78);
        for (int o = 3; o > 0; o -= 2) {
            x.export(0, o, 0, 16, -1);
            x.free(0, 0);
        }
        CHECKS.answers("3: least free number", 1, () -> x.object(0));
        CHECKS.answers("3: next free number", 3, () -> x.object(0));
        CHECKS.answers("3: then at the end", 4, () -> x.object(0));
        CHECKS.answers("3: a new object's fields are 0", 0, () -> x.set(0, 1, 0, 5));
        CHECKS.answers("3: all of them", 0, () -> x.set(0, 1, 1, 5));
    }

    private static void promise16End() {
        CapabilityDomains x = new CapabilityDomains();
        CHECKS.refuses("16: no such domain", ARGUMENT, () -> x.end(0));
        x.domain();
        x.object(0);
        x.export(0, 0, 7, 31, -1);
        CHECKS.refuses("16: domain -1", ARGUMENT, () -> x.end(-1));
        CHECKS.refuses("16: domain 1", ARGUMENT, () -> x.end(1));
        CHECKS.answers("16: end", 1, () -> x.end(0));
        CHECKS.refuses("16: ended before", STATE, () -> x.end(0));
        CHECKS.answers("16: objects are gone", 0, () -> x.count(4));
        CHECKS.answers("16: holds", -1, () -> x.holds(0, 0, 0));
        CHECKS.answers("16: linked", -1, () -> x.linked(0, 0, 0));
        CHECKS.answers("16: slots are gone", -1, () -> x.slot(0, 7));
    }

    private static void promise16EndTakesBackWhatWasGiven() {
        CapabilityDomains x = new CapabilityDomains();
        x.domain();
        x.domain();
        x.object(0);
        x.object(0);
        x.object(1);
        x.export(0, 0, 0, 31, -1);
        x.export(0, 1, 1, 31, -1);
        x.export(0, 1, 2, 31, -1);
        x.revoke(0, 2);
        x.give(0, 0, 1, 0);
        x.give(0, 1, 1, 1);
        x.narrow(1, 1, 1, 4);
        x.export(1, 0, 2, 31, -1);
        x.hold(1, 0, 0, 0);
        CHECKS.answers("16: the dead is not counted, the narrowed is", 3, () -> x.end(0));
        CHECKS.answers("16: given", 2, () -> x.slot(1, 0));
        CHECKS.answers("16: given and narrowed", 2, () -> x.slot(1, 1));
        CHECKS.answers("16: another's own", 1, () -> x.slot(1, 2));
        CHECKS.answers("16: held in a field", 3, () -> x.holds(1, 0, 0));
        CHECKS.answers("16: one is left", 1, () -> x.count(3));
        CHECKS.answers("16: one domain is left", 1, () -> x.count(1));
    }

    private static void promise16EndKeepsWhatOthersGave() {
        CapabilityDomains x = new CapabilityDomains();
        x.domain();
        x.domain();
        x.object(0);
        x.export(0, 0, 0, 31, -1);
        x.give(0, 0, 1, 3);
        x.narrow(1, 3, 31, -1);
        x.give(1, 3, 0, 1);
        CHECKS.answers("16: a taker's end kills nothing", 0, () -> x.end(1));
        CHECKS.answers("16: the giver's own lives", 1, () -> x.slot(0, 0));
        CHECKS.answers("16: what the taker narrowed lives", 1, () -> x.slot(0, 1));
        CHECKS.answers("16: and can be used", 0, () -> x.read(0, 1, 0));
    }

    private static void promise20Count() {
        CapabilityDomains x = new CapabilityDomains();
        x.domain();
        x.domain();
        x.domain();
        x.object(0);
        x.object(2);
        x.object(2);
        x.export(2, 0, 0, 31, -1);
        x.export(2, 1, 1, 31, -1);
        x.narrow(2, 1, 1, 0);
        x.give(2, 0, 0, 0);
        CHECKS.answers("20: all are alive", 3, () -> x.count(1));
        x.end(0);
        CHECKS.answers("20: domains made", 3, () -> x.count(0));
        CHECKS.answers("20: alive ones", 2, () -> x.count(1));
        CHECKS.answers("20: capabilities made", 3, () -> x.count(2));
        CHECKS.answers("20: used up is not dead", 3, () -> x.count(3));
        x.revoke(2, 0);
        CHECKS.answers("20: made, the dead too", 3, () -> x.count(2));
        CHECKS.answers("20: not dead", 2, () -> x.count(3));
        x.export(2, 1, 1, 31, -1);
        CHECKS.answers("20: not dead though in no slot", 3, () -> x.count(3));
        int[] objects = {0, 0, 2, 0, 0, 0};
        for (int d = 0; d < 6; d++) {
            int what = d + 4;
            CHECKS.answers("20: objects of " + d, objects[d], () -> x.count(what));
        }
        int[] none = {10, -1, 11, Integer.MAX_VALUE, Integer.MIN_VALUE};
        for (int what : none) {
            CHECKS.answers("20: count(" + what + ")", -1, () -> x.count(what));
        }
    }
}
