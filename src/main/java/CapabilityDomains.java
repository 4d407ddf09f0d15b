import java.util.NoSuchElementException;

/**
 * Domains that share nothing but capabilities: each has objects of its own, and reaches those of
 * others only through capabilities that can be narrowed, given, revoked and counted.
 */
public final class CapabilityDomains {
    private static final int MOST_DOMAINS = 6;
    private static final int MOST_OBJECTS = 12;
    private static final int MOST_CAPABILITIES = 40;
    private static final int SLOTS = 8;
    private static final int FIELDS = 3;

    private static final int READ = 1;
    private static final int WRITE = 2;
    private static final int PASS = 4;
    private static final int TAKE = 8;
    private static final int FREE = 16;
    private static final int ALL_RIGHTS = 31;

    private static final int WITHOUT_END = -1;
    private static final int NONE = -1;

    private final Domain[] domains;
    private int domainsMade;
    private final Capability[] capabilities;
    private int capabilitiesMade;
    private final Reach reach;

    public CapabilityDomains() {
        domains = new Domain[MOST_DOMAINS];
        capabilities = new Capability[MOST_CAPABILITIES];
        reach = new Reach();
    }

    public int domain() throws IllegalStateException {
        if (domainsMade >= MOST_DOMAINS) {
            throw new IllegalStateException("all domains were made");
        }
        domains[domainsMade] = new Domain();
        domainsMade++;
        return domainsMade - 1;
    }

    public int object(int d)
            throws IllegalArgumentException, IllegalStateException, ArithmeticException {
        Domain domain = livingDomain(d);
        if (domain.objectCount() >= MOST_OBJECTS) {
            throw new ArithmeticException("the domain is full");
        }
        return domain.makeObject();
    }

    public int set(int d, int o, int f, int v)
            throws IllegalArgumentException, IllegalStateException, NoSuchElementException,
                    IndexOutOfBoundsException {
        Field field = fieldOf(livingDomain(d), o, f);
        int before = field.number;
        field.becomeNumber(v);
        return before;
    }

    public int link(int d, int o, int f, int t)
            throws IllegalArgumentException, IllegalStateException, NoSuchElementException,
                    IndexOutOfBoundsException {
        Domain domain = livingDomain(d);
        Field field = fieldOf(domain, o, f);
        if (!domain.hasObject(t)) {
            throw new NoSuchElementException("no such object to link to");
        }
        field.becomeLink(t);
        return 0;
    }

    public int hold(int d, int o, int f, int s)
            throws IllegalArgumentException, IllegalStateException, NoSuchElementException,
                    IndexOutOfBoundsException {
        Domain domain = livingDomain(d);
        Field field = fieldOf(domain, o, f);
        if (!isSlot(s)) {
            throw new IndexOutOfBoundsException("no such slot");
        }
        field.becomeCapability(capabilityIn(domain, s));
        return 0;
    }

    public int export(int d, int o, int s, int rights, int uses)
            throws IllegalArgumentException, IllegalStateException, NoSuchElementException,
                    ArithmeticException {
        requireSlot(d, s);
        requireGrant(rights, uses);
        Domain domain = livingDomain(d);
        if (!domain.hasObject(o)) {
            throw new NoSuchElementException("no such object");
        }
        requireCapabilityLeft();
        return putNew(new Capability(domain, o, null, rights, uses), domain, s);
    }

    public int narrow(int d, int s, int rights, int uses)
            throws IllegalArgumentException, IllegalStateException, NoSuchElementException,
                    UnsupportedOperationException, ArithmeticException {
        requireSlot(d, s);
        requireGrant(rights, uses);
        Domain domain = livingDomain(d);
        Capability parent = capabilityIn(domain, s);
        if (parent.dead) {
            throw new IllegalStateException("the capability is dead");
        }
        if (!parent.allows(rights)) {
            throw new UnsupportedOperationException("the parent lacks a right");
        }
        requireCapabilityLeft();
        return putNew(new Capability(parent.home, parent.target, parent, rights, uses), domain, s);
    }

    public int give(int d, int s, int e, int t)
            throws IllegalArgumentException, IllegalStateException, NoSuchElementException {
        requireSlot(d, s);
        requireSlot(e, t);
        Domain giver = livingDomain(d);
        Domain taker = livingDomain(e);
        return taker.replaceSlot(t, capabilityIn(giver, s));
    }

    public int revoke(int d, int s)
            throws IllegalArgumentException, IllegalStateException, NoSuchElementException,
                    UnsupportedOperationException {
        requireSlot(d, s);
        Domain domain = livingDomain(d);
        Capability capability = capabilityIn(domain, s);
        if (capability.home != domain) {
            throw new UnsupportedOperationException("only the home revokes");
        }
        capability.revoked = true;
        return spreadDeath();
    }

    public int read(int d, int s, int f)
            throws IllegalArgumentException, IllegalStateException, NoSuchElementException,
                    UnsupportedOperationException, IndexOutOfBoundsException, ArithmeticException {
        Capability capability = usable(d, s, READ);
        Field field = targetField(capability, f);
        if (!field.isNumber()) {
            throw new ArithmeticException("the field holds no int");
        }
        capability.spendOneUse();
        return field.number;
    }

    public int write(int d, int s, int f, int v)
            throws IllegalArgumentException, IllegalStateException, NoSuchElementException,
                    UnsupportedOperationException, IndexOutOfBoundsException {
        Capability capability = usable(d, s, WRITE);
        targetField(capability, f).becomeNumber(v);
        capability.spendOneUse();
        return capability.uses;
    }

    public int pass(int d, int s, int f, int o)
            throws IllegalArgumentException, IllegalStateException, NoSuchElementException,
                    UnsupportedOperationException, IndexOutOfBoundsException, ArithmeticException {
        Capability capability = usable(d, s, PASS);
        Field field = targetField(capability, f);
        Domain from = livingDomain(d);
        if (!from.hasObject(o)) {
            throw new NoSuchElementException("no such object to pass");
        }
        reach.start(from, o);
        if (capability.home.objectCount() + reach.size > MOST_OBJECTS) {
            throw new ArithmeticException("the home has no room for the copies");
        }
        reach.copyInto(capability.home);
        // Only now, since the target can be one of the objects that are copied as they were.
        field.becomeLink(reach.copyNumber[o]);
        capability.spendOneUse();
        return reach.size;
    }

    public int take(int d, int s, int f, int t)
            throws IllegalArgumentException, IllegalStateException, NoSuchElementException,
                    UnsupportedOperationException, IndexOutOfBoundsException, ArithmeticException {
        Capability capability = usable(d, s, TAKE);
        Field field = targetField(capability, f);
        if (!isSlot(t)) {
            throw new IndexOutOfBoundsException("no such slot");
        }
        if (field.capability == null) {
            throw new ArithmeticException("the field holds no capability");
        }
        capability.spendOneUse();
        return livingDomain(d).replaceSlot(t, field.capability);
    }

    public int free(int d, int s)
            throws IllegalArgumentException, IllegalStateException, NoSuchElementException,
                    UnsupportedOperationException {
        Capability capability = usable(d, s, FREE);
        capability.spendOneUse();
        int unlinked = capability.home.removeObject(capability.target);
        spreadDeath();
        return unlinked;
    }

    public int end(int d) throws IllegalArgumentException, IllegalStateException {
        livingDomain(d).finish();
        return spreadDeath();
    }

    public int holds(int d, int o, int f) {
        if (!isField(d, o, f)) {
            return NONE;
        }
        Field field = domains[d].objects[o].fields[f];
        if (field.capability != null) {
            return field.capability.dead ? 3 : 2;
        }
        return field.isLink() ? 1 : 0;
    }

    public int linked(int d, int o, int f) {
        return isField(d, o, f) ? domains[d].objects[o].fields[f].link : NONE;
    }

    public int slot(int d, int s) {
        if (!isDomain(d) || domains[d].ended || !isSlot(s)) {
            return NONE;
        }
        Capability capability = domains[d].slots[s];
        if (capability == null) {
            return 0;
        }
        return capability.dead ? 2 : 1;
    }

    public int count(int what) {
        switch (what) {
            case 0:
                return domainsMade;
            case 1:
                return livingDomains();
            case 2:
                return capabilitiesMade;
            case 3:
                return livingCapabilities();
            default:
                return what >= 4 && what < 4 + MOST_DOMAINS ? objectsOf(what - 4) : NONE;
        }
    }

    private int livingDomains() {
        int living = 0;
        for (int d = 0; d < domainsMade; d++) {
            if (!domains[d].ended) {
                living++;
            }
        }
        return living;
    }

    private int livingCapabilities() {
        int living = 0;
        for (int c = 0; c < capabilitiesMade; c++) {
            if (!capabilities[c].dead) {
                living++;
            }
        }
        return living;
    }

    private int objectsOf(int d) {
        return isDomain(d) ? domains[d].objectCount() : 0;
    }

    private boolean isDomain(int d) {
        return d >= 0 && d < domainsMade;
    }

    private static boolean isSlot(int s) {
        return s >= 0 && s < SLOTS;
    }

    private boolean isField(int d, int o, int f) {
        return isDomain(d) && domains[d].hasObject(o) && f >= 0 && f < FIELDS;
    }

    private void requireSlot(int d, int s) {
        if (!isDomain(d) || !isSlot(s)) {
            throw new IllegalArgumentException("no such domain or slot");
        }
    }

    private static void requireGrant(int rights, int uses) {
        if (rights < 0 || rights > ALL_RIGHTS || uses < WITHOUT_END) {
            throw new IllegalArgumentException("rights or uses out of range");
        }
    }

    private void requireCapabilityLeft() {
        if (capabilitiesMade >= MOST_CAPABILITIES) {
            throw new ArithmeticException("all capabilities were made");
        }
    }

    private Domain livingDomain(int d) {
        if (!isDomain(d)) {
            throw new IllegalArgumentException("no such domain");
        }
        if (domains[d].ended) {
            throw new IllegalStateException("the domain has ended");
        }
        return domains[d];
    }

    private static Field fieldOf(Domain domain, int o, int f) {
        if (!domain.hasObject(o)) {
            throw new NoSuchElementException("no such object");
        }
        if (f < 0 || f >= FIELDS) {
            throw new IndexOutOfBoundsException("no such field");
        }
        return domain.objects[o].fields[f];
    }

    private static Capability capabilityIn(Domain domain, int s) {
        Capability capability = domain.slots[s];
        if (capability == null) {
            throw new NoSuchElementException("the slot is empty");
        }
        return capability;
    }

    /** Tests all that USING tests; the use itself is spent later, when the call's own tests are over. */
    private Capability usable(int d, int s, int right) {
        requireSlot(d, s);
        Capability capability = capabilityIn(livingDomain(d), s);
        if (capability.dead || capability.isUsedUp()) {
            throw new IllegalStateException("the capability is dead or used up");
        }
        if (!capability.allows(right)) {
            throw new UnsupportedOperationException("the capability lacks the right");
        }
        return capability;
    }

    private static Field targetField(Capability usable, int f) {
        return fieldOf(usable.home, usable.target, f);
    }

    private int putNew(Capability made, Domain domain, int s) {
        capabilities[capabilitiesMade] = made;
        capabilitiesMade++;
        domain.slots[s] = made;
        return capabilitiesMade;
    }

    /**
     * Answers how many died. One round is enough, for a parent is made before its children; and it
     * must come before a freed number is used again, for then the target would seem to be there.
     */
    private int spreadDeath() {
        int died = 0;
        for (int c = 0; c < capabilitiesMade; c++) {
            Capability capability = capabilities[c];
            if (!capability.dead && capability.mustDie()) {
                capability.dead = true;
                died++;
            }
        }
        return died;
    }

    /** An int, unless it has a link or a capability. */
    private static final class Field {
        /** 0 beside a link or a capability: what a call that sets the field then answers. */
        int number;
        int link;
        Capability capability;

        Field() {
            link = NONE;
        }

        boolean isLink() {
            return link != NONE;
        }

        boolean isNumber() {
            return link == NONE && capability == null;
        }

        void becomeNumber(int v) {
            number = v;
            link = NONE;
            capability = null;
        }

        void becomeLink(int t) {
            number = 0;
            link = t;
            capability = null;
        }

        void becomeCapability(Capability c) {
            number = 0;
            link = NONE;
            capability = c;
        }
    }

    /** Stands for one number of a domain, whichever objects bear that number one after another. */
    private static final class DomainObject {
        boolean there;
        final Field[] fields;

        DomainObject() {
            fields = new Field[FIELDS];
            for (int f = 0; f < FIELDS; f++) {
                fields[f] = new Field();
            }
        }

        void begin() {
            there = true;
            for (int f = 0; f < FIELDS; f++) {
                fields[f].becomeNumber(0);
            }
        }

        int unlink(int o) {
            int unlinked = 0;
            for (int f = 0; f < FIELDS; f++) {
                if (fields[f].link == o) {
                    fields[f].becomeNumber(0);
                    unlinked++;
                }
            }
            return unlinked;
        }
    }

    private static final class Domain {
        boolean ended;
        final DomainObject[] objects;
        final Capability[] slots;

        Domain() {
            objects = new DomainObject[MOST_OBJECTS];
            for (int o = 0; o < MOST_OBJECTS; o++) {
                objects[o] = new DomainObject();
            }
            slots = new Capability[SLOTS];
        }

        boolean hasObject(int o) {
            return o >= 0 && o < MOST_OBJECTS && objects[o].there;
        }

        int objectCount() {
            int there = 0;
            for (int o = 0; o < MOST_OBJECTS; o++) {
                if (objects[o].there) {
                    there++;
                }
            }
            return there;
        }

        int makeObject() {
            for (int o = 0; o < MOST_OBJECTS; o++) {
                if (!objects[o].there) {
                    objects[o].begin();
                    return o;
                }
            }
            return NONE;
        }

        /** Answers how many links went; those of the removed object itself are gone with it. */
        int removeObject(int removed) {
            objects[removed].there = false;
            int unlinked = 0;
            for (int o = 0; o < MOST_OBJECTS; o++) {
                if (objects[o].there) {
                    unlinked += objects[o].unlink(removed);
                }
            }
            return unlinked;
        }

        int replaceSlot(int s, Capability capability) {
            int before = slots[s] == null ? 0 : 1;
            slots[s] = capability;
            return before;
        }

        void finish() {
            ended = true;
            for (int o = 0; o < MOST_OBJECTS; o++) {
                objects[o].there = false;
            }
            for (int s = 0; s < SLOTS; s++) {
                slots[s] = null;
            }
        }
    }

    private static final class Capability {
        final Domain home;
        final int target;
        final Capability parent;
        final int rights;
        int uses;
        boolean revoked;
        boolean dead;

        Capability(Domain home, int target, Capability parent, int rights, int uses) {
            this.home = home;
            this.target = target;
            this.parent = parent;
            this.rights = rights;
            this.uses = uses;
        }

        boolean allows(int asked) {
            return (asked & ~rights) == 0;
        }

        boolean mustDie() {
            return revoked
                    || home.ended
                    || !home.hasObject(target)
                    || (parent != null && parent.dead);
        }

        boolean isUsedUp() {
            for (Capability c = this; c != null; c = c.parent) {
                if (c.uses == 0) {
                    return true;
                }
            }
            return false;
        }

        void spendOneUse() {
            for (Capability c = this; c != null; c = c.parent) {
                if (c.uses > 0) {
                    c.uses--;
                }
            }
        }
    }

    /** The objects that hang on one object, in the order in which they are first come to. */
    private static final class Reach {
        int size;
        final int[] copyNumber;
        private final int[] order;
        private final boolean[] seen;
        private Domain from;

        Reach() {
            copyNumber = new int[MOST_OBJECTS];
            order = new int[MOST_OBJECTS];
            seen = new boolean[MOST_OBJECTS];
        }

        void start(Domain domain, int o) {
            from = domain;
            size = 0;
            for (int i = 0; i < MOST_OBJECTS; i++) {
                seen[i] = false;
            }
            comeTo(o, 0);
        }

        /** No object that is not yet seen is deeper than there are objects, so the guard loses none. */
        private void comeTo(int o, int depth) {
            if (depth >= MOST_OBJECTS || !from.hasObject(o) || seen[o]) {
                return;
            }
            seen[o] = true;
            order[size] = o;
            size++;
            for (int f = 0; f < FIELDS; f++) {
                comeTo(from.objects[o].fields[f].link, depth + 1);
            }
        }

        /** All copies are numbered before any field is copied, since links can lead forward. */
        void copyInto(Domain home) {
            for (int i = 0; i < size; i++) {
                copyNumber[order[i]] = home.makeObject();
            }
            for (int i = 0; i < size; i++) {
                copyFields(from.objects[order[i]], home.objects[copyNumber[order[i]]]);
            }
        }

        private void copyFields(DomainObject source, DomainObject copy) {
            for (int f = 0; f < FIELDS; f++) {
                Field field = source.fields[f];
                if (field.isLink()) {
                    copy.fields[f].becomeLink(copyNumber[field.link]);
                } else if (field.capability != null) {
                    copy.fields[f].becomeCapability(field.capability);
                } else {
                    copy.fields[f].becomeNumber(field.number);
                }
            }
        }
    }
}
