import java.util.NoSuchElementException;

/** What the tests share: the exceptions by what they mean, and the numbers at the document's limits. */
abstract class Limits {
    static final Class<IllegalArgumentException> ARGUMENT = IllegalArgumentException.class;
    static final Class<IllegalStateException> STATE = IllegalStateException.class;
    static final Class<NoSuchElementException> ELEMENT = NoSuchElementException.class;
    static final Class<UnsupportedOperationException> RIGHT = UnsupportedOperationException.class;
    static final Class<IndexOutOfBoundsException> INDEX = IndexOutOfBoundsException.class;
    static final Class<ArithmeticException> ARITHMETIC = ArithmeticException.class;

    static final int LEAST = Integer.MIN_VALUE;
    static final int MOST = Integer.MAX_VALUE;

    /** The numbers just inside a limit, and those outside: the nearest ones and the farthest. */
    static final int[] DOMAINS = {0, 5};
    static final int[] NO_DOMAINS = {-1, 6, LEAST, MOST};
    static final int[] OBJECTS = {0, 11};
    static final int[] NO_OBJECTS = {-1, 12, LEAST, MOST};
    static final int[] SLOTS = {0, 7};
    static final int[] NO_SLOTS = {-1, 8, LEAST, MOST};
    static final int[] FIELDS = {0, 1, 2};
    static final int[] NO_FIELDS = {-1, 3, LEAST, MOST};
    static final int[] RIGHTS = {0, 31};
    static final int[] NO_RIGHTS = {-1, 32, LEAST, MOST};
    static final int[] USES = {-1, 0, 1, MOST};
    static final int[] NO_USES = {-2, LEAST};

    /** Domains 0 and 1 with so many objects each. */
    static CapabilityDomains twoDomains(int objects) {
        CapabilityDomains x = new CapabilityDomains();
        for (int d = 0; d < 2; d++) {
            x.domain();
            addObjects(x, d, objects);
        }
        return x;
    }

    /** All six domains, each with one object and a capability for it in the slots 0 and 7. */
    static void sixDomains(CapabilityDomains x) {
        for (int d = 0; d < 6; d++) {
            x.domain();
            x.object(d);
            x.export(d, 0, 0, 31, -1);
            x.give(d, 0, d, 7);
        }
    }

    /** Fills a domain that has one object; the last one's fields are 0, 6 and the slot's capability. */
    static void fill(CapabilityDomains x, int d) {
        addObjects(x, d, 11);
        x.set(d, 11, 1, 6);
        x.hold(d, 11, 2, 0);
    }

    static void addObjects(CapabilityDomains x, int d, int more) {
        for (int i = 0; i < more; i++) {
            x.object(d);
        }
    }

    /** Domain 0 with an object and a capability for it in slot 0; domain 1 has ended; no other. */
    static void oneEnded(CapabilityDomains x) {
        for (int d = 0; d < 2; d++) {
            x.domain();
            x.object(d);
            x.export(d, 0, 0, 31, -1);
        }
        x.end(1);
    }

    /** Frees an object by a capability in the slot, which then has a dead one. */
    static void freeBy(CapabilityDomains x, int d, int o, int s) {
        x.export(d, o, s, 16, 1);
        x.free(d, s);
    }

    /** Narrows what is in the slot again and again; the slot then has the last child. */
    static void narrowBy(CapabilityDomains x, int d, int s, int generations) {
        for (int i = 0; i < generations; i++) {
            x.narrow(d, s, 31, -1);
        }
    }

    /** Makes capabilities in the slot until 40 were made. */
    static void makeForty(CapabilityDomains x, int d, int s) {
        for (int made = x.count(2); made < 40; made++) {
            x.export(d, 0, s, 15, -1);
        }
    }
}
