import java.util.ArrayList;
import java.util.List;
import java.util.function.Supplier;

/**
 * Looks at an object from all sides by calls of its face alone. Most looks change what they look
 * at, so each has an object of its own; none goes beyond the 512 calls of the document.
 */
final class Looks {
    private interface Look {
        void at(Looks seen);
    }

    private static final Look[] ALL = {
        Looks::counts, Looks::slots, Looks::holdings, Looks::links, Looks::ints, Looks::rights,
        Looks::ownUses, Looks::usesOfParents, Looks::heldCapabilities, Looks::passes,
        Looks::revokes, Looks::revokesBackward, Looks::frees, Looks::endsBackward, Looks::makings
    };

    private final CapabilityDomains x;
    private final int domains;
    private final List<String> answers;

    private Looks(CapabilityDomains x, List<String> answers) {
        this.x = x;
        this.domains = x.count(0);
        this.answers = answers;
    }

    /** All that can be seen, always in the same order, of objects that were made alike. */
    static List<String> at(Supplier<CapabilityDomains> alike) {
        List<String> answers = new ArrayList<>();
        for (Look look : ALL) {
            look.at(new Looks(alike.get(), answers));
        }
        return answers;
    }

    private void note(String call, Checks.Call made) {
        answers.add(call + " = " + Checks.told(made));
    }

    private interface Place {
        void at(int d, int number);
    }

    private interface FieldPlace {
        void at(int d, int o, int f);
    }

    private void eachSlot(Place place) {
        for (int d = 0; d < domains; d++) {
            for (int s = 0; s < 8; s++) {
                place.at(d, s);
            }
        }
    }

    private void eachField(FieldPlace place) {
        for (int d = 0; d < domains; d++) {
            for (int o = 0; o < 12; o++) {
                for (int f = 0; f < 3; f++) {
                    place.at(d, o, f);
                }
            }
        }
    }

    private void counts() {
        for (int what = 0; what < 10; what++) {
            int asked = what;
            note("count " + asked, () -> x.count(asked));
        }
    }

    private void slots() {
        eachSlot((d, s) -> note("slot " + d + " " + s, () -> x.slot(d, s)));
    }

    private void holdings() {
        eachField((d, o, f) -> note("holds " + d + " " + o + " " + f, () -> x.holds(d, o, f)));
    }

    private void links() {
        eachField((d, o, f) -> note("linked " + d + " " + o + " " + f, () -> x.linked(d, o, f)));
    }

    private void ints() {
        eachField((d, o, f) -> note("int " + d + " " + o + " " + f, () -> x.set(d, o, f, 0)));
    }

    /** A field that is none is tested after the right, so nothing is used here. */
    private void rights() {
        eachSlot((d, s) -> {
            String at = " by " + d + " " + s;
            note("read" + at, () -> x.read(d, s, 3));
            note("write" + at, () -> x.write(d, s, 3, 0));
            note("pass" + at, () -> x.pass(d, s, 3, 0));
            note("take" + at, () -> x.take(d, s, 3, 0));
        });
    }

    /** Each writes another int, so that where the ints stand afterwards tells the targets. */
    private void ownUses() {
        eachSlot((d, s) -> note("uses of " + d + " " + s, () -> x.write(d, s, 0, 100 + d * 8 + s)));
        for (int d = 0; d < domains; d++) {
            for (int o = 0; o < 12; o++) {
                int domain = d;
                int object = o;
                note("written to " + d + " " + o, () -> x.set(domain, object, 0, 0));
            }
        }
    }

    private void usesOfParents() {
        eachSlot((d, s) -> {
            for (int times = 0; times < 4; times++) {
                note("write by " + d + " " + s, () -> x.write(d, s, 0, 0));
            }
        });
    }

    private void heldCapabilities() {
        eachField((d, o, f) -> {
            if (x.holds(d, o, f) >= 2) {
                String at = d + " " + o + " " + f;
                note("reach for " + at, () -> x.export(d, o, 6, 8, 1));
                note("take from " + at, () -> x.take(d, 6, f, 6));
                note("write by what was in " + at, () -> x.write(d, 6, 0, 0));
            }
        });
    }

    private void passes() {
        eachSlot((d, s) -> note("pass by " + d + " " + s, () -> x.pass(d, s, 1, 0)));
    }

    private void revokes() {
        eachSlot((d, s) -> note("revoke " + d + " " + s, () -> x.revoke(d, s)));
    }

    private void revokesBackward() {
        eachSlot((d, s) -> note("revoke back " + (domains - 1 - d) + " " + (7 - s),
                () -> x.revoke(domains - 1 - d, 7 - s)));
    }

    private void frees() {
        eachSlot((d, s) -> note("free " + d + " " + s, () -> x.free(d, s)));
    }

    private void endsBackward() {
        for (int d = domains - 1; d >= 0; d--) {
            int ended = d;
            note("end " + d, () -> x.end(ended));
        }
    }

    private void makings() {
        for (int d = 0; d < domains; d++) {
            int made = d;
            for (int times = 0; times < 13; times++) {
                note("object of " + d, () -> x.object(made));
            }
            note("export of " + d, () -> x.export(made, 0, 0, 1, 1));
        }
        for (int times = domains; times < 7; times++) {
            note("domain", x::domain);
        }
    }
}
