/** USING, as promises 11 to 15 have it, at its limits: each test names its sentence. */
final class UsingBoundaryTest extends Limits {
    private static final Checks CHECKS = new Checks("UsingBoundaryTest");

    /** Six domains, and field 2 of each one's object holds the capability for that object. */
    private static final Scene SIX = new Scene(CHECKS, x -> {
        sixDomains(x);
        for (int d = 0; d < 6; d++) {
            x.hold(d, 0, 2, 0);
        }
    });
    private static final Scene ONE_ENDED = new Scene(CHECKS, Limits::oneEnded);

    /** A call that is USING. */
    private interface Use {
        int through(CapabilityDomains x, int d, int s);
    }

    private final String call;
    private final int right;
    /** What the good call answers wherever the scenes here let it be made. */
    private final int due;
    private final Use good;
    /** With other arguments that are none, so that USING has to be tested before them. */
    private final Use bad;

    private UsingBoundaryTest(String call, int right, int due, Use good, Use bad) {
        this.call = call;
        this.right = right;
        this.due = due;
        this.good = good;
        this.bad = bad;
    }

    public static void main(String[] args) {
        UsingBoundaryTest[] uses = {
            new UsingBoundaryTest("11: read", 1, 0,
                    (x, d, s) -> x.read(d, s, 0), (x, d, s) -> x.read(d, s, 3)),
            new UsingBoundaryTest("12: write", 2, -1,
                    (x, d, s) -> x.write(d, s, 0, 5), (x, d, s) -> x.write(d, s, 3, 5)),
            new UsingBoundaryTest("13: pass", 4, 1,
                    (x, d, s) -> x.pass(d, s, 0, 0), (x, d, s) -> x.pass(d, s, 3, 12)),
            new UsingBoundaryTest("14: take", 8, 0,
                    (x, d, s) -> x.take(d, s, 2, 6), (x, d, s) -> x.take(d, s, 3, 8)),
            new UsingBoundaryTest("15: free", 16, 0,
                    (x, d, s) -> x.free(d, s), (x, d, s) -> x.free(d, s))};
        for (UsingBoundaryTest use : uses) {
            use.noDomainOrSlot();
            use.ended();
            use.empty();
            use.dead();
            use.noUsesLeft();
            use.noUsesLeftOfAParent();
            use.lacksTheRight();
            use.inThisOrder();
        }
        allHaveOneLess();
        CHECKS.finish();
    }

    /** "d is no DOMAIN or s out of 0 .. 7: IllegalArgumentException" */
    private void noDomainOrSlot() {
        SIX.answersEach(call + " in domain", due, DOMAINS, (x, d) -> good.through(x, d, 0));
        SIX.refusesEach(call + " in domain", ARGUMENT, NO_DOMAINS, (x, d) -> good.through(x, d, 0));
        SIX.answersEach(call + " by slot", due, SLOTS, (x, s) -> good.through(x, 0, s));
        SIX.refusesEach(call + " by slot", ARGUMENT, NO_SLOTS, (x, s) -> good.through(x, 0, s));
        ONE_ENDED.refusesEach(call + " in a domain not yet made", ARGUMENT, new int[] {2, 5},
                (x, d) -> good.through(x, d, 0));
    }

    /** "d has ended: IllegalStateException" */
    private void ended() {
        ONE_ENDED.refuses(call + " in an ended domain", STATE, x -> good.through(x, 1, 0));
        SIX.then(x -> x.end(1)).answers(call + " beside an ended domain", due,
                x -> good.through(x, 0, 0));
    }

    /** "the SLOT is empty: NoSuchElementException" */
    private void empty() {
        SIX.refusesEach(call + " by empty slot", ELEMENT, new int[] {1, 6},
                (x, s) -> good.through(x, 0, s));
    }

    /** "the CAPABILITY is DEAD [...]: IllegalStateException" */
    private void dead() {
        Scene given = SIX.then(x -> {
            x.give(0, 0, 1, 1);
            x.narrow(1, 1, 31, -1);
            x.give(1, 1, 0, 1);
        });
        given.answers(call + " by one not dead", due, x -> good.through(x, 1, 1));
        given.then(x -> x.revoke(0, 1)).refuses(call + " by a revoked one", STATE,
                x -> good.through(x, 1, 1));
        given.then(x -> x.revoke(0, 0)).refuses(call + " by a revoked one's child", STATE,
                x -> good.through(x, 1, 1));
        given.then(x -> x.free(0, 0)).refuses(call + " to a freed target", STATE,
                x -> good.through(x, 1, 1));
        given.then(x -> x.free(0, 0)).then(x -> x.object(0)).refuses(
                call + " to a new object of a freed one's number", STATE,
                x -> good.through(x, 1, 1));
        given.then(x -> x.end(0)).refuses(call + " to an ended home", STATE,
                x -> good.through(x, 1, 1));
    }

    /** "or has 0 USES left": the answer of write, told in another test, is how many are left. */
    private void noUsesLeft() {
        Scene one = SIX.then(x -> x.export(0, 0, 1, 31, 1));
        one.answers(call + " by one use", right == 2 ? 0 : due, x -> good.through(x, 0, 1));
        one.then(x -> x.read(0, 1, 0)).refuses(call + " after the last use", STATE,
                x -> good.through(x, 0, 1));
        SIX.then(x -> x.export(0, 0, 1, 31, 0)).refuses(call + " by no use", STATE,
                x -> good.through(x, 0, 1));
    }

    /** "or one of its parents (at any height) has" */
    private void noUsesLeftOfAParent() {
        for (int generations : new int[] {1, 2, 3, 33}) {
            Scene none = SIX.then(x -> {
                x.export(0, 0, 1, 31, 0);
                narrowBy(x, 0, 1, generations);
            });
            none.refuses(call + ", a parent used up at height " + generations, STATE,
                    x -> good.through(x, 0, 1));
            Scene one = SIX.then(x -> {
                x.export(0, 0, 1, 31, 1);
                narrowBy(x, 0, 1, generations);
            });
            one.answers(call + ", a parent's last use at height " + generations, due,
                    x -> good.through(x, 0, 1));
            one.then(x -> x.read(0, 1, 0)).refuses(
                    call + ", after a parent's last use at height " + generations, STATE,
                    x -> good.through(x, 0, 1));
        }
        Scene between = SIX.then(x -> {
            x.export(0, 0, 1, 31, 5);
            x.narrow(0, 1, 31, 0);
            x.narrow(0, 1, 31, 5);
        });
        between.refuses(call + ", used up in the middle alone", STATE, x -> good.through(x, 0, 1));
    }

    /** "it lacks the RIGHT: UnsupportedOperationException" */
    private void lacksTheRight() {
        SIX.then(x -> x.export(0, 0, 1, 31 - right, 3)).refuses(call + " with all other rights",
                RIGHT, x -> good.through(x, 0, 1));
        SIX.then(x -> x.export(0, 0, 1, 0, 3)).refuses(call + " without rights", RIGHT,
                x -> good.through(x, 0, 1));
        SIX.then(x -> x.export(0, 0, 1, right, -1)).answers(call + " with that right alone", due,
                x -> good.through(x, 0, 1));
        SIX.then(x -> x.narrow(0, 0, 31 - right, -1)).refuses(
                call + " with a right that only the parent has", RIGHT,
                x -> good.through(x, 0, 0));
    }

    /** "tested in this order" and "What is tested later is told with each call." */
    private void inThisOrder() {
        Scene scene = SIX.then(x -> {
            x.end(1);
            x.export(0, 0, 1, 31 - right, 0);
            x.export(0, 0, 2, 31 - right, 0);
            x.narrow(0, 2, 31 - right, -1);
            x.export(0, 0, 3, 31 - right, -1);
            x.revoke(0, 3);
            x.export(0, 0, 4, 31 - right, -1);
        });
        scene.refuses(call + ", slot before ended", ARGUMENT, x -> bad.through(x, 1, 8));
        scene.refuses(call + ", ended before empty", STATE, x -> bad.through(x, 1, 0));
        scene.refuses(call + ", empty before the rest", ELEMENT, x -> bad.through(x, 0, 6));
        scene.refuses(call + ", used up before right", STATE, x -> bad.through(x, 0, 1));
        scene.refuses(call + ", parent used up before right", STATE, x -> bad.through(x, 0, 2));
        scene.refuses(call + ", dead before right", STATE, x -> bad.through(x, 0, 3));
        scene.refuses(call + ", right before the rest", RIGHT, x -> bad.through(x, 0, 4));
        if (right != 16) {
            scene.refuses(call + ", the rest last", INDEX, x -> bad.through(x, 0, 0));
        }
    }

    /**
     * "If nothing is thrown, the CAPABILITY and all its parents that do not have USES without end
     * have one less."
     */
    private static void allHaveOneLess() {
        // Slot 1 has the parent (3 uses), 2 its child (without end), 3 the child's child (2 uses).
        Scene family = SIX.then(x -> {
            x.export(0, 0, 1, 31, 3);
            x.give(0, 1, 0, 2);
            x.narrow(0, 2, 31, -1);
            x.give(0, 2, 0, 3);
            x.narrow(0, 3, 31, 2);
        });
        Scene.Call[] calls = {x -> x.read(0, 3, 0), x -> x.write(0, 3, 0, 5),
            x -> x.pass(0, 3, 0, 0), x -> x.take(0, 3, 2, 6)};
        for (int c = 0; c < calls.length; c++) {
            Scene used = family.then(calls[c]::on);
            used.answers("uses: its own, call " + c, 0, x -> x.write(0, 3, 0, 0));
            used.answers("uses: without end, call " + c, -1, x -> x.write(0, 2, 0, 0));
            used.answers("uses: its parent's parent's, call " + c, 1, x -> x.write(0, 1, 0, 0));
            used.then(x -> x.read(0, 3, 1)).refuses("uses: its own are used up, call " + c, STATE,
                    x -> x.read(0, 3, 1));
        }
        Scene byChild = family.then(x -> x.write(0, 2, 0, 0)).then(x -> x.write(0, 2, 0, 0));
        byChild.answers("uses: a child's child's stay", 1, x -> x.write(0, 3, 0, 0));
        byChild.answers("uses: a parent's go", 0, x -> x.write(0, 1, 0, 0));
        Scene last = byChild.then(x -> x.write(0, 1, 0, 0));
        last.refuses("uses: none of the parent's left, the child's child", STATE,
                x -> x.write(0, 3, 0, 0));
        last.refuses("uses: none of the parent's left, the child", STATE,
                x -> x.write(0, 2, 0, 0));
    }
}
