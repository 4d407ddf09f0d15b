/** Promises 4, 5, 6, 17 and 18: what a domain does with the fields of its own objects. */
final class FieldsTest {
    private static final Checks CHECKS = new Checks("FieldsTest");

    public static void main(String[] args) {
        promise4Set();
        promise5Link();
        promise6Hold();
        promise17Holds();
        promise18Linked();
        CHECKS.finish();
    }

    /** Domain 0 has the objects 0 and 1, and a capability for 0 in slot 2. */
    private static CapabilityDomains place() {
        CapabilityDomains x = new CapabilityDomains();
        x.domain();
        x.object(0);
        x.object(0);
        x.export(0, 0, 2, 31, -1);
        return x;
    }

    private static void promise4Set() {
        CapabilityDomains x = place();
        CHECKS.answers("4: 0 at first", 0, () -> x.set(0, 0, 1, Integer.MIN_VALUE));
        CHECKS.answers("4: what stood there", Integer.MIN_VALUE, () -> x.set(0, 0, 1, -1));
        CHECKS.answers("4: -1 is an int like others", -1, () -> x.set(0, 0, 1, 9));
        CHECKS.answers("4: other fields are other", 0, () -> x.set(0, 0, 0, 8));
        CHECKS.answers("4: other objects are other", 0, () -> x.set(0, 1, 1, 7));
        x.link(0, 0, 1, 1);
        CHECKS.answers("4: 0 for a link", 0, () -> x.set(0, 0, 1, 6));
        CHECKS.answers("4: the link is gone", -1, () -> x.linked(0, 0, 1));
        x.hold(0, 0, 1, 2);
        CHECKS.answers("4: 0 for a capability", 0, () -> x.set(0, 0, 1, 5));
        CHECKS.answers("4: the capability is gone", 0, () -> x.holds(0, 0, 1));
        CHECKS.answers("4: the int is there", 5, () -> x.read(0, 2, 1));
    }

    private static void promise5Link() {
        CapabilityDomains x = place();
        x.set(0, 0, 0, 4);
        CHECKS.answers("5: link", 0, () -> x.link(0, 0, 0, 1));
        CHECKS.answers("5: linked", 1, () -> x.linked(0, 0, 0));
        CHECKS.answers("5: to itself", 0, () -> x.link(0, 0, 0, 0));
        CHECKS.answers("5: linked to itself", 0, () -> x.linked(0, 0, 0));
        x.hold(0, 0, 1, 2);
        CHECKS.answers("5: over a capability", 0, () -> x.link(0, 0, 1, 1));
        CHECKS.answers("5: holds a link", 1, () -> x.holds(0, 0, 1));
    }

    private static void promise6Hold() {
        CapabilityDomains x = place();
        CHECKS.answers("6: hold", 0, () -> x.hold(0, 1, 2, 2));
        CHECKS.answers("6: holds a capability", 2, () -> x.holds(0, 1, 2));
        CHECKS.answers("6: the slot keeps it", 1, () -> x.slot(0, 2));
        x.link(0, 1, 1, 0);
        CHECKS.answers("6: over a link", 0, () -> x.hold(0, 1, 1, 2));
        CHECKS.answers("6: the link is gone", -1, () -> x.linked(0, 1, 1));
        x.revoke(0, 2);
        CHECKS.answers("6: a dead one can be held", 0, () -> x.hold(0, 1, 0, 2));
        CHECKS.answers("6: and is dead there", 3, () -> x.holds(0, 1, 0));
    }

    private static void promise17Holds() {
        CapabilityDomains x = place();
        CHECKS.answers("17: an int", 0, () -> x.holds(0, 0, 0));
        x.link(0, 0, 0, 0);
        CHECKS.answers("17: a link", 1, () -> x.holds(0, 0, 0));
        x.narrow(0, 2, 31, 0);
        x.hold(0, 0, 1, 2);
        CHECKS.answers("17: used up is not dead", 2, () -> x.holds(0, 0, 1));
        x.revoke(0, 2);
        CHECKS.answers("17: dead", 3, () -> x.holds(0, 0, 1));
    }

    private static void promise18Linked() {
        CapabilityDomains x = place();
        x.link(0, 0, 0, 1);
        x.link(0, 1, 2, 0);
        x.set(0, 1, 1, 1);
        x.hold(0, 0, 1, 2);
        CHECKS.answers("18: linked", 1, () -> x.linked(0, 0, 0));
        CHECKS.answers("18: linked to 0", 0, () -> x.linked(0, 1, 2));
        CHECKS.answers("18: an int is no link", -1, () -> x.linked(0, 1, 1));
        CHECKS.answers("18: a capability is no link", -1, () -> x.linked(0, 0, 1));
    }
}
