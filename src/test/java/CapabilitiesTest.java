/** Promises 7, 8, 9 and 10, and 19 with them: how capabilities are made, narrowed, given and revoked. */
final class CapabilitiesTest extends Limits {
    private static final Checks CHECKS = new Checks("CapabilitiesTest");

    public static void main(String[] args) {
        promise7Export();
        promise8Narrow();
        promise9Give();
        promise10Revoke();
        CHECKS.finish();
    }

    private static void promise7Export() {
        CapabilityDomains x = twoDomains(1);
        x.object(0);
        x.set(0, 0, 0, 10);
        x.set(0, 1, 0, 11);
        CHECKS.answers("7: first", 1, () -> x.export(0, 0, 0, 31, -1));
        CHECKS.answers("7: second, the last slot", 2, () -> x.export(0, 1, 7, 1, 1));
        CHECKS.answers("7: another domain counts on", 3, () -> x.export(1, 0, 0, 0, 0));
        CHECKS.answers("7: target", 10, () -> x.read(0, 0, 0));
        CHECKS.answers("7: target in the last slot", 11, () -> x.read(0, 7, 0));
        CHECKS.refuses("7: it had one use", STATE, () -> x.read(0, 7, 0));
        CHECKS.answers("7: in place of what is there", 4, () -> x.export(0, 1, 0, 1, -1));
        CHECKS.answers("7: the new target", 11, () -> x.read(0, 0, 0));
        CHECKS.refuses("7: the new rights", RIGHT, () -> x.write(0, 0, 0, 1));
        CHECKS.answers("7: what was there lives on", 4, () -> x.count(3));
        x.revoke(0, 0);
        CHECKS.answers("7: a new one has no parent", 5, () -> x.export(0, 1, 0, 1, -1));
        CHECKS.answers("7: so it is not dead", 1, () -> x.slot(0, 0));
    }

    private static void promise8Narrow() {
        CapabilityDomains x = twoDomains(1);
        x.set(0, 0, 0, 5);
        x.export(0, 0, 0, 7, -1);
        x.give(0, 0, 1, 0);
        CHECKS.answers("8: narrow", 2, () -> x.narrow(1, 0, 1, 2));
        CHECKS.answers("8: same target", 5, () -> x.read(1, 0, 0));
        CHECKS.refuses("8: the new rights", RIGHT, () -> x.write(1, 0, 0, 1));
        CHECKS.answers("8: the parent's slot keeps it", -1, () -> x.write(0, 0, 0, 6));
        CHECKS.refuses("8: the home stays", RIGHT, () -> x.revoke(1, 0));
        CHECKS.answers("8: to no rights and more uses", 3, () -> x.narrow(1, 0, 0, 100));
        CHECKS.answers("8: of no rights to none", 4, () -> x.narrow(1, 0, 0, 0));
        CHECKS.answers("8: used up, but not dead", 5, () -> x.narrow(1, 0, 0, -1));
        CHECKS.answers("8: same home", 1, () -> {
            x.give(1, 0, 0, 1);
            return x.revoke(0, 1);
        });
    }

    private static void promise9Give() {
        CapabilityDomains x = twoDomains(1);
        x.export(0, 0, 0, 3, 2);
        CHECKS.answers("9: into an empty slot", 0, () -> x.give(0, 0, 1, 7));
        CHECKS.answers("9: the giver keeps it", 1, () -> x.slot(0, 0));
        CHECKS.answers("9: into a full slot", 1, () -> x.give(0, 0, 1, 7));
        CHECKS.answers("9: to itself", 0, () -> x.give(0, 0, 0, 1));
        CHECKS.answers("9: into its own slot", 1, () -> x.give(0, 0, 0, 0));
        CHECKS.answers("9: the same one is used", 1, () -> x.write(1, 7, 0, 4));
        CHECKS.answers("9: in all its slots", 0, () -> x.write(0, 1, 0, 4));
        CHECKS.refuses("9: so it is used up", STATE, () -> x.read(0, 0, 0));
        x.export(0, 0, 2, 3, -1);
        CHECKS.answers("9: over another", 1, () -> x.give(0, 2, 1, 7));
        CHECKS.answers("9: the other takes its place", 4, () -> x.read(1, 7, 0));
        x.revoke(0, 2);
        CHECKS.answers("9: a dead one is given, too", 0, () -> x.give(0, 2, 1, 6));
        CHECKS.answers("9: and is dead there", 2, () -> x.slot(1, 6));
        CHECKS.answers("9: over a dead one", 1, () -> x.give(0, 0, 1, 6));
    }

    private static void promise10Revoke() {
        CapabilityDomains x = twoDomains(1);
        x.export(0, 0, 0, 31, -1);
        x.give(0, 0, 1, 0);
        x.narrow(1, 0, 15, 5);
        x.give(1, 0, 1, 1);
        x.narrow(1, 1, 7, 5);
        x.give(1, 1, 0, 1);
        x.give(1, 0, 1, 2);
        x.narrow(1, 2, 3, 5);
        x.export(0, 0, 2, 31, -1);
        CHECKS.answers("10: a leaf alone", 1, () -> x.revoke(0, 1));
        CHECKS.answers("10: its parent lives", 1, () -> x.slot(1, 0));
        CHECKS.answers("10: once more", 0, () -> x.revoke(0, 1));
        CHECKS.answers("10: the root and all below, the dead less", 3, () -> x.revoke(0, 0));
        for (int s = 0; s < 3; s++) {
            int given = s;
            CHECKS.answers("10: dead wherever it is", 2, () -> x.slot(1, given));
        }
        CHECKS.answers("10: another for the same target lives", 1, () -> x.slot(0, 2));
        CHECKS.answers("10: one is left", 1, () -> x.count(3));
        CHECKS.refuses("10: what is dead can not be used", STATE, () -> x.read(1, 2, 0));
    }
}
