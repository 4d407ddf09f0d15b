import java.util.List;

/**
 * A run of calls that is made anew for each check, so that each has an object of its own, and a
 * refused call can be held against a twin that was never called.
 */
final class Scene {
    interface Steps {
        void on(CapabilityDomains x);
    }

    interface Call {
        int on(CapabilityDomains x);
    }

    interface NumberCall {
        int on(CapabilityDomains x, int number);
    }

    private final Checks checks;
    private final Steps steps;
    private List<String> untouched;

    Scene(Checks checks, Steps steps) {
        this.checks = checks;
        this.steps = steps;
    }

    Scene then(Steps more) {
        return new Scene(checks, x -> {
            steps.on(x);
            more.on(x);
        });
    }

    void answers(String what, int due, Call call) {
        CapabilityDomains x = make();
        checks.answers(what, due, () -> call.on(x));
    }

    void answersEach(String what, int due, int[] numbers, NumberCall call) {
        for (int number : numbers) {
            answers(what + " " + number, due, x -> call.on(x, number));
        }
    }

    /** The call throws what is due, and "What throws changes nothing." */
    void refuses(String what, Class<? extends RuntimeException> due, Call call) {
        CapabilityDomains x = make();
        checks.refuses(what, due, () -> call.on(x));
        changesNothing(what, call);
    }

    void refusesEach(String what, Class<? extends RuntimeException> due, int[] numbers,
            NumberCall call) {
        for (int number : numbers) {
            refuses(what + " " + number, due, x -> call.on(x, number));
        }
    }

    /** The call, which only asks, answers what is due, and nothing has changed. */
    void tells(String what, int due, Call call) {
        answers(what, due, call);
        changesNothing(what, call);
    }

    void tellsEach(String what, int due, int[] numbers, NumberCall call) {
        for (int number : numbers) {
            tells(what + " " + number, due, x -> call.on(x, number));
        }
    }

    private void changesNothing(String what, Call call) {
        if (untouched == null) {
            untouched = Looks.at(this::make);
        }
        List<String> touched = Looks.at(() -> {
            CapabilityDomains x = make();
            Checks.told(() -> call.on(x));
            return x;
        });
        checks.check(what + ", and changes nothing", firstChange(touched), "no change");
    }

    private CapabilityDomains make() {
        CapabilityDomains x = new CapabilityDomains();
        steps.on(x);
        return x;
    }

    private String firstChange(List<String> touched) {
        for (int i = 0; i < touched.size() && i < untouched.size(); i++) {
            if (!touched.get(i).equals(untouched.get(i))) {
                return touched.get(i) + " instead of " + untouched.get(i);
            }
        }
        return touched.size() == untouched.size() ? "no change" : "another number of calls";
    }
}
