import java.util.NoSuchElementException;

/** Promises 7, 8, 9, 10 and 19: how capabilities are made, narrowed, given and revoked. */
final class CapabilitiesTest {
    private static final Class<IllegalArgumentException> ARGUMENT = IllegalArgumentException.class;
    private static final Class<IllegalStateException> STATE = IllegalStateException.class;
    private static final Class<NoSuchElementException> ELEMENT = NoSuchElementException.class;
    private static final Class<UnsupportedOperationException> RIGHT =
            UnsupportedOperationException.class;
    private static final Class<ArithmeticException> FULL = ArithmeticException.class;
    private static final Checks CHECKS = new Checks("CapabilitiesTest");

    public static void main(String[] args) {
        promise7Export();
        promise7ExportRefuses();
        promise8Narrow();
        promise8NarrowRefuses();
        promises7And8FortyAreMade();
        promise9Give();
        promise9GiveRefuses();
        promise10Revoke();
        promise10RevokeRefuses();
        promise19Slot();
        CHECKS.finish();
    }

    /** Domains 0 and 1 have one object each; domain 2 has ended. */
    private static CapabilityDomains place() {
        CapabilityDomains x = new CapabilityDomains();
        for (int d = 0; d < 3; d++) {
            x.domain();
            x.object(d);
        }
        x.end(2);
        return x;
    }

    private static void promise7Export() {
        CapabilityDomains x = place();
        x.object(0);
        x.set(0, 0, 0, 10);
        x.set(0, 1, 0, 11);
        CHECKS.answers("7: first", 1, () -> x.export(0, 0, 0, 31, -1));
        CHECKS.answers("7: second, the last slot", 2, () -> x.export(0, 1, 7, 1, 1));
        CHECKS.answers("7: another domain counts on", 3, () -> x.export(1, 0, 0, 0, 0));
        CHECKS.answers("7: target", 10, () -> x.read(0, 0, 0));
        CHECKS.answers("7: target in the last slot", 11, () -> x.read(0, 7, 0));
        CHECKS.refuses("7: it had one use", STATE, () -> x.read(0, 7, 0));
        CHECKS.answers("7: in place of what is there", 4, () -> x.export(0, 1, 0, 1, -1));
        CHECKS.answers("7: the new target", 11, () -> x.read(0, 0, 0));
        CHECKS.refuses("7: the new rights", RIGHT, () -> x.write(0, 0, 0, 1));
        CHECKS.answers("7: what was there lives on", 4, () -> x.count(3));
        x.revoke(0, 0);
        CHECKS.answers("7: a new one has no parent", 5, () -> x.export(0, 1, 0, 1, -1));
        CHECKS.answers("7: so it is not dead", 1, () -> x.slot(0, 0));
    }

    private static void promise7ExportRefuses() {
        CapabilityDomains x = place();
        CHECKS.refuses("7: domain -1", ARGUMENT, () -> x.export(-1, 0, 0, 1, 1));
        CHECKS.refuses("7: domain 3", ARGUMENT, () -> x.export(3, 0, 0, 1, 1));
        CHECKS.refuses("7: slot before ended", ARGUMENT, () -> x.export(2, 0, 8, 1, 1));
        CHECKS.refuses("7: slot -1", ARGUMENT, () -> x.export(0, 0, -1, 1, 1));
        CHECKS.refuses("7: rights before ended", ARGUMENT, () -> x.export(2, 0, 0, 32, 1));
        CHECKS.refuses("7: rights -1", ARGUMENT, () -> x.export(0, 0, 0, -1, 1));
        CHECKS.refuses("7: uses before ended", ARGUMENT, () -> x.export(2, 0, 0, 1, -2));
        CHECKS.refuses("7: uses before object", ARGUMENT, () -> x.export(0, 5, 0, 1, -2));
        CHECKS.refuses("7: ended before object", STATE, () -> x.export(2, 12, 0, 1, 1));
        CHECKS.refuses("7: no object", ELEMENT, () -> x.export(0, 1, 0, 1, 1));
        CHECKS.refuses("7: object -1", ELEMENT, () -> x.export(0, -1, 0, 1, 1));
        CHECKS.refuses("7: object 12", ELEMENT, () -> x.export(0, 12, 0, 1, 1));
        CHECKS.answers("7: what throws makes none", 0, () -> x.count(2));
        CHECKS.answers("7: and puts none", 0, () -> x.slot(0, 0));
    }

    private static void promise8Narrow() {
        CapabilityDomains x = place();
        x.set(0, 0, 0, 5);
        x.export(0, 0, 0, 7, -1);
        x.give(0, 0, 1, 0);
        CHECKS.answers("8: narrow", 2, () -> x.narrow(1, 0, 1, 2));
        CHECKS.answers("8: same target", 5, () -> x.read(1, 0, 0));
        CHECKS.refuses("8: the new rights", RIGHT, () -> x.write(1, 0, 0, 1));
        CHECKS.answers("8: the parent's slot keeps it", -1, () -> x.write(0, 0, 0, 6));
        CHECKS.refuses("8: the home stays", RIGHT, () -> x.revoke(1, 0));
        CHECKS.answers("8: to no rights and more uses", 3, () -> x.narrow(1, 0, 0, 100));
        CHECKS.answers("8: of no rights to none", 4, () -> x.narrow(1, 0, 0, 0));
        CHECKS.answers("8: used up, but not dead", 5, () -> x.narrow(1, 0, 0, -1));
        CHECKS.answers("8: same home", 1, () -> {
            x.give(1, 0, 0, 1);
            return x.revoke(0, 1);
        });
    }

    private static void promise8NarrowRefuses() {
        CapabilityDomains x = place();
        x.export(0, 0, 0, 5, -1);
        CHECKS.refuses("8: domain -1", ARGUMENT, () -> x.narrow(-1, 0, 1, 1));
        CHECKS.refuses("8: domain 3", ARGUMENT, () -> x.narrow(3, 0, 1, 1));
        CHECKS.refuses("8: slot before ended", ARGUMENT, () -> x.narrow(2, 8, 1, 1));
        CHECKS.refuses("8: slot -1", ARGUMENT, () -> x.narrow(0, -1, 1, 1));
        CHECKS.refuses("8: rights before ended", ARGUMENT, () -> x.narrow(2, 0, 32, 1));
        CHECKS.refuses("8: rights before empty", ARGUMENT, () -> x.narrow(0, 1, -1, 1));
        CHECKS.refuses("8: uses before empty", ARGUMENT, () -> x.narrow(0, 1, 1, -2));
        CHECKS.refuses("8: ended", STATE, () -> x.narrow(2, 0, 1, 1));
        CHECKS.refuses("8: empty", ELEMENT, () -> x.narrow(0, 1, 1, 1));
        CHECKS.refuses("8: a right too many", RIGHT, () -> x.narrow(0, 0, 2, 1));
        CHECKS.refuses("8: one of them too many", RIGHT, () -> x.narrow(0, 0, 21, 1));
        x.revoke(0, 0);
        CHECKS.refuses("8: dead before rights", STATE, () -> x.narrow(0, 0, 2, 1));
        CHECKS.refuses("8: dead", STATE, () -> x.narrow(0, 0, 1, 1));
        CHECKS.answers("8: what throws makes none", 1, () -> x.count(2));
    }

    private static void promises7And8FortyAreMade() {
        CapabilityDomains x = place();
        for (int made = 1; made <= 40; made++) {
            int due = made;
            CHECKS.answers("7, 8: made", due,
                    () -> due % 2 == 1 ? x.export(0, 0, 0, 3, -1) : x.narrow(0, 0, 1, 9));
        }
        CHECKS.refuses("7: the forty-first", FULL, () -> x.export(0, 0, 0, 1, 1));
        CHECKS.refuses("7: object before forty", ELEMENT, () -> x.export(0, 1, 0, 1, 1));
        CHECKS.refuses("8: the forty-first", FULL, () -> x.narrow(0, 0, 1, 1));
        CHECKS.refuses("8: rights before forty", RIGHT, () -> x.narrow(0, 0, 2, 1));
        x.revoke(0, 0);
        CHECKS.refuses("7: the dead were made too", FULL, () -> x.export(0, 0, 0, 1, 1));
        CHECKS.refuses("8: dead before forty", STATE, () -> x.narrow(0, 0, 1, 1));
    }

    private static void promise9Give() {
        CapabilityDomains x = place();
        x.export(0, 0, 0, 3, 2);
        CHECKS.answers("9: into an empty slot", 0, () -> x.give(0, 0, 1, 7));
        CHECKS.answers("9: the giver keeps it", 1, () -> x.slot(0, 0));
        CHECKS.answers("9: into a full slot", 1, () -> x.give(0, 0, 1, 7));
        CHECKS.answers("9: to itself", 0, () -> x.give(0, 0, 0, 1));
        CHECKS.answers("9: into its own slot", 1, () -> x.give(0, 0, 0, 0));
        CHECKS.answers("9: the same one is used", 1, () -> x.write(1, 7, 0, 4));
        CHECKS.answers("9: in all its slots", 0, () -> x.write(0, 1, 0, 4));
        CHECKS.refuses("9: so it is used up", STATE, () -> x.read(0, 0, 0));
        x.export(0, 0, 2, 3, -1);
        CHECKS.answers("9: over another", 1, () -> x.give(0, 2, 1, 7));
        CHECKS.answers("9: the other takes its place", 4, () -> x.read(1, 7, 0));
        x.revoke(0, 2);
        CHECKS.answers("9: a dead one is given, too", 0, () -> x.give(0, 2, 1, 6));
        CHECKS.answers("9: and is dead there", 2, () -> x.slot(1, 6));
        CHECKS.answers("9: over a dead one", 1, () -> x.give(0, 0, 1, 6));
    }

    private static void promise9GiveRefuses() {
        CapabilityDomains x = place();
        x.export(0, 0, 0, 3, 2);
        CHECKS.refuses("9: giver -1", ARGUMENT, () -> x.give(-1, 0, 1, 0));
        CHECKS.refuses("9: giver 3", ARGUMENT, () -> x.give(3, 0, 1, 0));
        CHECKS.refuses("9: slot -1", ARGUMENT, () -> x.give(0, -1, 1, 0));
        CHECKS.refuses("9: slot 8", ARGUMENT, () -> x.give(0, 8, 1, 0));
        CHECKS.refuses("9: taker -1", ARGUMENT, () -> x.give(0, 0, -1, 0));
        CHECKS.refuses("9: taker before ended giver", ARGUMENT, () -> x.give(2, 0, 3, 0));
        CHECKS.refuses("9: its slot before ended giver", ARGUMENT, () -> x.give(2, 0, 1, 8));
        CHECKS.refuses("9: its slot -1", ARGUMENT, () -> x.give(0, 0, 1, -1));
        CHECKS.refuses("9: slot before ended taker", ARGUMENT, () -> x.give(0, 8, 2, 0));
        CHECKS.refuses("9: giver ended", STATE, () -> x.give(2, 0, 1, 0));
        CHECKS.refuses("9: taker ended before empty", STATE, () -> x.give(0, 1, 2, 0));
        CHECKS.refuses("9: empty", ELEMENT, () -> x.give(0, 1, 1, 0));
        CHECKS.answers("9: what throws gives nothing", 0, () -> x.slot(1, 0));
    }

    private static void promise10Revoke() {
        CapabilityDomains x = place();
        x.export(0, 0, 0, 31, -1);
        x.give(0, 0, 1, 0);
        x.narrow(1, 0, 15, 5);
        x.give(1, 0, 1, 1);
        x.narrow(1, 1, 7, 5);
        x.give(1, 1, 0, 1);
        x.give(1, 0, 1, 2);
        x.narrow(1, 2, 3, 5);
        x.export(0, 0, 2, 31, -1);
        CHECKS.answers("10: a leaf alone", 1, () -> x.revoke(0, 1));
        CHECKS.answers("10: its parent lives", 1, () -> x.slot(1, 0));
        CHECKS.answers("10: once more", 0, () -> x.revoke(0, 1));
        CHECKS.answers("10: the root and all below, the dead less", 3, () -> x.revoke(0, 0));
        for (int s = 0; s < 3; s++) {
            int given = s;
            CHECKS.answers("10: dead wherever it is", 2, () -> x.slot(1, given));
        }
        CHECKS.answers("10: another for the same target lives", 1, () -> x.slot(0, 2));
        CHECKS.answers("10: one is left", 1, () -> x.count(3));
        CHECKS.refuses("10: what is dead can not be used", STATE, () -> x.read(1, 2, 0));
    }

    private static void promise10RevokeRefuses() {
        CapabilityDomains x = place();
        x.export(0, 0, 0, 31, -1);
        x.give(0, 0, 1, 0);
        CHECKS.refuses("10: domain -1", ARGUMENT, () -> x.revoke(-1, 0));
        CHECKS.refuses("10: domain 3", ARGUMENT, () -> x.revoke(3, 0));
        CHECKS.refuses("10: slot 8 before ended", ARGUMENT, () -> x.revoke(2, 8));
        CHECKS.refuses("10: slot -1", ARGUMENT, () -> x.revoke(0, -1));
        CHECKS.refuses("10: ended", STATE, () -> x.revoke(2, 0));
        CHECKS.refuses("10: empty", ELEMENT, () -> x.revoke(0, 1));
        CHECKS.refuses("10: not its home", RIGHT, () -> x.revoke(1, 0));
        CHECKS.answers("10: what throws revokes nothing", 1, () -> x.slot(1, 0));
    }

    private static void promise19Slot() {
        CapabilityDomains x = place();
        CHECKS.answers("19: empty", 0, () -> x.slot(0, 0));
        CHECKS.answers("19: empty, the last", 0, () -> x.slot(0, 7));
        CHECKS.answers("19: slot 8", -1, () -> x.slot(0, 8));
        CHECKS.answers("19: slot -1", -1, () -> x.slot(0, -1));
        CHECKS.answers("19: domain -1", -1, () -> x.slot(-1, 0));
        CHECKS.answers("19: domain 3", -1, () -> x.slot(3, 0));
        CHECKS.answers("19: domain 6", -1, () -> x.slot(6, 0));
        CHECKS.answers("19: ended", -1, () -> x.slot(2, 0));
        x.export(0, 0, 7, 0, 0);
        CHECKS.answers("19: used up is not dead", 1, () -> x.slot(0, 7));
        x.revoke(0, 7);
        CHECKS.answers("19: dead", 2, () -> x.slot(0, 7));
    }
}
