/** Promises 1, 2, 3, 16 and 20: what is made, what ends, and what is counted. */
final class DomainsTest {
    private static final Checks CHECKS = new Checks("DomainsTest");

    public static void main(String[] args) {
        promise1NewObject();
        promises2And3Numbers();
        promise16EndTakesBackWhatWasGiven();
        promise16EndKeepsWhatOthersGave();
        promise20Count();
        CHECKS.finish();
    }

    private static void promise1NewObject() {
        CapabilityDomains x = new CapabilityDomains();
        CapabilityDomains other = new CapabilityDomains();
        other.domain();
        CHECKS.answers("1: objects share nothing", 0, () -> x.count(0));
    }

    private static void promises2And3Numbers() {
        CapabilityDomains x = new CapabilityDomains();
        CHECKS.answers("2: the first domain", 0, x::domain);
        CHECKS.answers("2: the second domain", 1, x::domain);
        for (int o = 0; o < 12; o++) {
            CHECKS.answers("3: object", o, () -> x.object(1));
        }
        CHECKS.answers("3: the other domain has its own numbers", 0, () -> x.object(0));
    }

    private static void promise16EndTakesBackWhatWasGiven() {
        CapabilityDomains x = new CapabilityDomains();
        x.domain();
        x.domain();
        x.object(0);
        x.object(0);
        x.object(1);
        x.export(0, 0, 0, 31, -1);
        x.export(0, 1, 1, 31, -1);
        x.export(0, 1, 2, 31, -1);
        x.revoke(0, 2);
        x.give(0, 0, 1, 0);
        x.give(0, 1, 1, 1);
        x.narrow(1, 1, 1, 4);
        x.export(1, 0, 2, 31, -1);
        x.hold(1, 0, 0, 0);
        CHECKS.answers("16: the dead is not counted, the narrowed is", 3, () -> x.end(0));
        CHECKS.answers("16: given", 2, () -> x.slot(1, 0));
        CHECKS.answers("16: given and narrowed", 2, () -> x.slot(1, 1));
        CHECKS.answers("16: another's own", 1, () -> x.slot(1, 2));
        CHECKS.answers("16: held in a field", 3, () -> x.holds(1, 0, 0));
        CHECKS.answers("16: one is left", 1, () -> x.count(3));
        CHECKS.answers("16: one domain is left", 1, () -> x.count(1));
    }

    private static void promise16EndKeepsWhatOthersGave() {
        CapabilityDomains x = new CapabilityDomains();
        x.domain();
        x.domain();
        x.object(0);
        x.export(0, 0, 0, 31, -1);
        x.give(0, 0, 1, 3);
        x.narrow(1, 3, 31, -1);
        x.give(1, 3, 0, 1);
        CHECKS.answers("16: a taker's end kills nothing", 0, () -> x.end(1));
        CHECKS.answers("16: the giver's own lives", 1, () -> x.slot(0, 0));
        CHECKS.answers("16: what the taker narrowed lives", 1, () -> x.slot(0, 1));
        CHECKS.answers("16: and can be used", 0, () -> x.read(0, 1, 0));
    }

    private static void promise20Count() {
        CapabilityDomains x = new CapabilityDomains();
        x.domain();
        x.domain();
        x.domain();
        x.object(0);
        x.object(2);
        x.object(2);
        x.export(2, 0, 0, 31, -1);
        x.export(2, 1, 1, 31, -1);
        x.narrow(2, 1, 1, 0);
        x.give(2, 0, 0, 0);
        CHECKS.answers("20: all are alive", 3, () -> x.count(1));
        x.end(0);
        CHECKS.answers("20: domains made", 3, () -> x.count(0));
        CHECKS.answers("20: alive ones", 2, () -> x.count(1));
        CHECKS.answers("20: capabilities made", 3, () -> x.count(2));
        CHECKS.answers("20: used up is not dead", 3, () -> x.count(3));
        x.revoke(2, 0);
        CHECKS.answers("20: made, the dead too", 3, () -> x.count(2));
        CHECKS.answers("20: not dead", 2, () -> x.count(3));
        x.export(2, 1, 1, 31, -1);
        CHECKS.answers("20: not dead though in no slot", 3, () -> x.count(3));
        int[] objects = {0, 0, 2, 0, 0, 0};
        for (int d = 0; d < 6; d++) {
            int what = d + 4;
            CHECKS.answers("20: objects of " + d, objects[d], () -> x.count(what));
        }
    }
}
