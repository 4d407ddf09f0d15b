/** Promises 11 to 15: what is done through a capability, and what USING it costs. */
final class UsingTest extends Limits {
    private static final Checks CHECKS = new Checks("UsingTest");

    public static void main(String[] args) {
        promise11Read();
        promise12Write();
        usesAreCountedAtAllHeights();
        promise13Pass();
        promise13PassOrder();
        promise13PassIntoItsOwnDomain();
        promise14Take();
        promise15Free();
        promise15FreeEndsAllThatAimAtIt();
        CHECKS.finish();
    }

    private static void promise11Read() {
        CapabilityDomains x = twoDomains(2);
        x.export(1, 1, 0, 1, -1);
        x.give(1, 0, 0, 5);
        x.set(1, 1, 0, -7);
        x.set(1, 1, 2, Integer.MAX_VALUE);
        CHECKS.answers("11: read", -7, () -> x.read(0, 5, 0));
        CHECKS.answers("11: 0 at first", 0, () -> x.read(0, 5, 1));
        CHECKS.answers("11: field 2", Integer.MAX_VALUE, () -> x.read(0, 5, 2));
        x.link(1, 1, 0, 0);
        CHECKS.refuses("11: a link", ARITHMETIC, () -> x.read(0, 5, 0));
        x.hold(1, 1, 0, 0);
        CHECKS.refuses("11: a capability", ARITHMETIC, () -> x.read(0, 5, 0));
    }

    private static void promise12Write() {
        CapabilityDomains x = twoDomains(2);
        x.export(1, 1, 0, 2, 3);
        x.give(1, 0, 0, 5);
        x.link(1, 1, 1, 0);
        x.hold(1, 1, 2, 0);
        CHECKS.answers("12: uses left", 2, () -> x.write(0, 5, 0, 9));
        CHECKS.answers("12: the int is there", 9, () -> x.set(1, 1, 0, 9));
        CHECKS.answers("12: over a link", 1, () -> x.write(0, 5, 1, 8));
        CHECKS.answers("12: an int in its place", 0, () -> x.holds(1, 1, 1));
        CHECKS.answers("12: over a capability", 0, () -> x.write(0, 5, 2, 7));
        CHECKS.answers("12: an int in its place, too", 7, () -> x.set(1, 1, 2, 7));
        CHECKS.refuses("12: used up", STATE, () -> x.write(0, 5, 0, 6));
        CHECKS.answers("12: then nothing is written", 9, () -> x.set(1, 1, 0, 9));
        x.export(1, 1, 0, 2, -1);
        CHECKS.answers("12: without end", -1, () -> x.write(1, 0, 0, 6));
    }

    private static void usesAreCountedAtAllHeights() {
        CapabilityDomains x = twoDomains(2);
        x.export(0, 0, 0, 31, 3);
        x.give(0, 0, 0, 1);
        x.narrow(0, 1, 31, -1);
        x.give(0, 1, 0, 2);
        x.narrow(0, 2, 31, 10);
        CHECKS.answers("uses: the child's own", 9, () -> x.write(0, 2, 0, 1));
        CHECKS.answers("uses: the one between has no end", -1, () -> x.write(0, 1, 0, 1));
        CHECKS.answers("uses: the root pays for all", 0, () -> x.write(0, 0, 0, 1));
        CHECKS.refuses("uses: the root is used up", STATE, () -> x.write(0, 0, 0, 1));
        CHECKS.refuses("uses: so is its child", STATE, () -> x.write(0, 1, 0, 1));
        CHECKS.refuses("uses: and the child's child", STATE, () -> x.write(0, 2, 0, 1));
        CHECKS.answers("uses: none of them is dead", 3, () -> x.count(3));
    }

    private static void promise13Pass() {
        CapabilityDomains x = twoDomains(2);
        x.export(0, 0, 3, 1, -1);
        x.set(0, 0, 0, 42);
        x.link(0, 0, 1, 1);
        x.hold(0, 0, 2, 3);
        x.link(0, 1, 0, 0);
        x.link(0, 1, 2, 1);
        x.export(1, 1, 0, 4, -1);
        x.give(1, 0, 0, 0);
        CHECKS.answers("13: each is copied once", 2, () -> x.pass(0, 0, 2, 0));
        CHECKS.answers("13: into the home", 4, () -> x.count(5));
        CHECKS.answers("13: out of none", 2, () -> x.count(4));
        CHECKS.answers("13: the target's field", 2, () -> x.linked(1, 1, 2));
        CHECKS.answers("13: link to another copy", 3, () -> x.linked(1, 2, 1));
        CHECKS.answers("13: link back", 2, () -> x.linked(1, 3, 0));
        CHECKS.answers("13: link to itself", 3, () -> x.linked(1, 3, 2));
        CHECKS.answers("13: ints as they are", 42, () -> x.set(1, 2, 0, 41));
        CHECKS.answers("13: the copy is another object", 42, () -> x.read(0, 3, 0));
        CHECKS.answers("13: the source keeps its links", 1, () -> x.linked(0, 0, 1));
        CHECKS.answers("13: capabilities as they are", 2, () -> x.holds(1, 2, 2));
        x.revoke(0, 3);
        CHECKS.answers("13: the same capability", 3, () -> x.holds(1, 2, 2));
        CHECKS.answers("13: a dead one, too", 2, () -> x.pass(0, 0, 0, 0));
        CHECKS.answers("13: and dead it stays", 3, () -> x.holds(1, 4, 2));
        CHECKS.answers("13: a second copy", 4, () -> x.linked(1, 1, 0));
    }

    /** All that hangs on a field comes before the next field, and numbers go by first coming. */
    private static void promise13PassOrder() {
        CapabilityDomains x = twoDomains(2);
        for (int o = 2; o < 7; o++) {
            x.object(0);
            x.set(0, o, 2, o * 10);
        }
        x.link(0, 6, 0, 3);
        x.link(0, 6, 1, 2);
        x.link(0, 3, 0, 5);
        x.link(0, 3, 1, 4);
        x.link(0, 5, 0, 2);
        x.export(1, 0, 0, 4, -1);
        x.give(1, 0, 0, 0);
        CHECKS.answers("13: order", 5, () -> x.pass(0, 0, 0, 6));
        int[] sources = {6, 3, 5, 2, 4};
        for (int i = 0; i < sources.length; i++) {
            int copy = i + 2;
            CHECKS.answers("13: order, copy " + copy, sources[i] * 10, () -> x.set(1, copy, 2, 0));
        }
        CHECKS.answers("13: order, the shared one", 5, () -> x.linked(1, 2, 1));
        CHECKS.answers("13: order, the shared one again", 5, () -> x.linked(1, 4, 0));
        CHECKS.answers("13: not what does not hang on it", 7, () -> x.count(5));
    }

    private static void promise13PassIntoItsOwnDomain() {
        CapabilityDomains x = twoDomains(2);
        x.link(0, 0, 0, 1);
        x.link(0, 1, 1, 0);
        x.export(0, 0, 0, 4, -1);
        CHECKS.answers("13: home and giver are one", 2, () -> x.pass(0, 0, 0, 0));
        CHECKS.answers("13: the target links to its copy", 2, () -> x.linked(0, 0, 0));
        CHECKS.answers("13: the copy is as the target was", 3, () -> x.linked(0, 2, 0));
        CHECKS.answers("13: and links back", 2, () -> x.linked(0, 3, 1));
        CHECKS.answers("13: the source's other object", 0, () -> x.linked(0, 1, 1));
        CHECKS.answers("13: the copy can be passed, too", 2, () -> x.pass(0, 0, 1, 2));
        CHECKS.answers("13: the copies hang on the target now", 5, () -> x.pass(0, 0, 2, 0));
    }

    private static void promise14Take() {
        CapabilityDomains x = twoDomains(2);
        x.set(1, 0, 0, 33);
        x.export(1, 0, 1, 1, 5);
        x.export(1, 1, 0, 8, -1);
        x.give(1, 0, 0, 0);
        x.hold(1, 1, 2, 1);
        x.link(1, 1, 1, 0);
        CHECKS.answers("14: into an empty slot", 0, () -> x.take(0, 0, 2, 7));
        CHECKS.answers("14: it is the held one", 33, () -> x.read(0, 7, 0));
        CHECKS.answers("14: the field keeps it", 2, () -> x.holds(1, 1, 2));
        CHECKS.answers("14: into a full slot", 1, () -> x.take(0, 0, 2, 7));
        x.revoke(1, 1);
        CHECKS.answers("14: a dead one, too", 0, () -> x.take(0, 0, 2, 1));
        CHECKS.answers("14: and dead it is", 2, () -> x.slot(0, 1));
        CHECKS.answers("14: into the used slot", 1, () -> x.take(0, 0, 2, 0));
        CHECKS.answers("14: which has the dead one now", 2, () -> x.slot(0, 0));
    }

    private static void promise15Free() {
        CapabilityDomains x = twoDomains(2);
        x.link(0, 0, 0, 0);
        x.link(0, 1, 0, 0);
        x.link(0, 1, 1, 1);
        x.link(0, 1, 2, 0);
        x.link(1, 1, 0, 0);
        x.export(0, 0, 0, 16, -1);
        x.give(0, 0, 1, 0);
        CHECKS.answers("15: links of others in the home", 2, () -> x.free(1, 0));
        CHECKS.answers("15: it is not there", -1, () -> x.holds(0, 0, 0));
        CHECKS.answers("15: nor counted", 1, () -> x.count(4));
        CHECKS.answers("15: links are ints", 0, () -> x.holds(0, 1, 0));
        CHECKS.answers("15: namely 0", 0, () -> x.set(0, 1, 2, 1));
        CHECKS.answers("15: other links stay", 1, () -> x.linked(0, 1, 1));
        CHECKS.answers("15: other domains' links stay", 0, () -> x.linked(1, 1, 0));
        CHECKS.refuses("15: not twice", STATE, () -> x.free(1, 0));
        x.export(0, 1, 0, 16, 1);
        CHECKS.answers("15: without links of others", 0, () -> x.free(0, 0));
        for (int f = 0; f < 3; f++) {
            x.link(1, 0, f, 1);
        }
        x.export(1, 1, 0, 16, 1);
        CHECKS.answers("15: links of a lesser number", 3, () -> x.free(1, 0));
        CHECKS.answers("15: they are ints, too", 0, () -> x.holds(1, 0, 2));
    }

    private static void promise15FreeEndsAllThatAimAtIt() {
        CapabilityDomains x = twoDomains(2);
        x.export(0, 0, 0, 31, -1);
        x.give(0, 0, 1, 0);
        x.narrow(1, 0, 17, 1);
        x.export(0, 0, 1, 1, -1);
        x.export(0, 1, 2, 1, -1);
        x.export(1, 0, 1, 1, -1);
        CHECKS.answers("15: through a narrowed one", 0, () -> x.free(1, 0));
        CHECKS.answers("15: its own is dead", 2, () -> x.slot(1, 0));
        CHECKS.answers("15: its parent is dead", 2, () -> x.slot(0, 0));
        CHECKS.answers("15: others for it are dead", 2, () -> x.slot(0, 1));
        CHECKS.answers("15: those for another object live", 1, () -> x.slot(0, 2));
        CHECKS.answers("15: those of another domain live", 1, () -> x.slot(1, 1));
        CHECKS.answers("15: two are left", 2, () -> x.count(3));
        x.object(0);
        CHECKS.answers("15: a new object of that number wakes none", 2, () -> x.slot(0, 0));
        CHECKS.refuses("15: nor can it be reached", STATE, () -> x.read(0, 0, 0));
        CHECKS.answers("15: nor is it counted again", 0, () -> x.revoke(0, 0));
    }
}
