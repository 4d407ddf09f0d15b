import java.util.ArrayList;
import java.util.HashMap;
import java.util.LinkedHashMap;
import java.util.List;
import java.util.Map;
import java.util.NoSuchElementException;
import java.util.TreeMap;

/**
 * The document once more, on purpose in another shape than the class: fields hold what they hold
 * (an Integer, an Obj or a Cap), and DEAD is worked out from its definition at each question.
 */
final class Model {
    private static final class Dom {
        boolean ended;
        final TreeMap<Integer, Obj> objects = new TreeMap<>();
        final HashMap<Integer, Cap> slots = new HashMap<>();
    }

    private static final class Obj {
        boolean freed;
        final Object[] fields = {0, 0, 0};
    }

    private static final class Cap {
        Dom home;
        Obj target;
        Cap parent;
        int rights;
        int uses;
        boolean revoked;

        boolean dead() {
            return revoked || target.freed || home.ended || (parent != null && parent.dead());
        }

        boolean spent() {
            return uses == 0 || (parent != null && parent.spent());
        }

        void spend() {
            uses = uses == -1 ? -1 : uses - 1;
            if (parent != null) {
                parent.spend();
            }
        }
    }

    private final List<Dom> doms = new ArrayList<>();
    private final List<Cap> caps = new ArrayList<>();

    private static void argument(boolean holds) {
        if (!holds) {
            throw new IllegalArgumentException();
        }
    }

    private static void state(boolean holds) {
        if (!holds) {
            throw new IllegalStateException();
        }
    }

    private static void element(boolean holds) {
        if (!holds) {
            throw new NoSuchElementException();
        }
    }

    private static void index(int i, int size) {
        if (i < 0 || i >= size) {
            throw new IndexOutOfBoundsException();
        }
    }

    private static void right(boolean holds) {
        if (!holds) {
            throw new UnsupportedOperationException();
        }
    }

    private static void arithmetic(boolean holds) {
        if (!holds) {
            throw new ArithmeticException();
        }
    }

    private boolean isDomain(int d) {
        return 0 <= d && d < doms.size();
    }

    private static boolean isSlot(int s) {
        return 0 <= s && s <= 7;
    }

    private Dom alive(int d) {
        argument(isDomain(d));
        state(!doms.get(d).ended);
        return doms.get(d);
    }

    private static int add(Dom dom, Obj obj) {
        int number = 0;
        while (dom.objects.containsKey(number)) {
            number++;
        }
        dom.objects.put(number, obj);
        return number;
    }

    private long living() {
        return caps.stream().filter(c -> !c.dead()).count();
    }

    private Obj own(int d, int o, int f) {
        Dom dom = alive(d);
        element(dom.objects.containsKey(o));
        index(f, 3);
        return dom.objects.get(o);
    }

    private Cap inSlot(int d, int s) {
        argument(isDomain(d) && isSlot(s));
        Dom dom = alive(d);
        element(dom.slots.containsKey(s));
        return dom.slots.get(s);
    }

    private Cap using(int d, int s, int asked) {
        Cap cap = inSlot(d, s);
        state(!cap.dead() && !cap.spent());
        right((cap.rights & asked) != 0);
        return cap;
    }

    private int grant(Dom home, Obj target, Cap parent, int rights, int uses) {
        arithmetic(caps.size() < 40);
        Cap cap = new Cap();
        cap.home = home;
        cap.target = target;
        cap.parent = parent;
        cap.rights = rights;
        cap.uses = uses;
        caps.add(cap);
        return caps.size();
    }

    int domain() {
        state(doms.size() < 6);
        doms.add(new Dom());
        return doms.size() - 1;
    }

    int object(int d) {
        Dom dom = alive(d);
        arithmetic(dom.objects.size() < 12);
        return add(dom, new Obj());
    }

    int set(int d, int o, int f, int v) {
        Obj obj = own(d, o, f);
        int before = obj.fields[f] instanceof Integer ? (Integer) obj.fields[f] : 0;
        obj.fields[f] = v;
        return before;
    }

    int link(int d, int o, int f, int t) {
        Obj obj = own(d, o, f);
        element(doms.get(d).objects.containsKey(t));
        obj.fields[f] = doms.get(d).objects.get(t);
        return 0;
    }

    int hold(int d, int o, int f, int s) {
        Obj obj = own(d, o, f);
        index(s, 8);
        obj.fields[f] = inSlot(d, s);
        return 0;
    }

    int export(int d, int o, int s, int rights, int uses) {
        argument(isDomain(d) && isSlot(s) && 0 <= rights && rights <= 31 && uses >= -1);
        Dom dom = alive(d);
        element(dom.objects.containsKey(o));
        int made = grant(dom, dom.objects.get(o), null, rights, uses);
        dom.slots.put(s, caps.get(made - 1));
        return made;
    }

    int narrow(int d, int s, int rights, int uses) {
        argument(isDomain(d) && isSlot(s) && 0 <= rights && rights <= 31 && uses >= -1);
        Cap parent = inSlot(d, s);
        state(!parent.dead());
        right((parent.rights | rights) == parent.rights);
        int made = grant(parent.home, parent.target, parent, rights, uses);
        doms.get(d).slots.put(s, caps.get(made - 1));
        return made;
    }

    int give(int d, int s, int e, int t) {
        argument(isDomain(d) && isSlot(s) && isDomain(e) && isSlot(t));
        state(!doms.get(d).ended && !doms.get(e).ended);
        return doms.get(e).slots.put(t, inSlot(d, s)) == null ? 0 : 1;
    }

    int revoke(int d, int s) {
        Cap cap = inSlot(d, s);
        right(cap.home == doms.get(d));
        long before = living();
        cap.revoked = true;
        return (int) (before - living());
    }

    int read(int d, int s, int f) {
        Cap cap = using(d, s, 1);
        index(f, 3);
        arithmetic(cap.target.fields[f] instanceof Integer);
        cap.spend();
        return (Integer) cap.target.fields[f];
    }

    int write(int d, int s, int f, int v) {
        Cap cap = using(d, s, 2);
        index(f, 3);
        cap.spend();
        cap.target.fields[f] = v;
        return cap.uses;
    }

    int pass(int d, int s, int f, int o) {
        Cap cap = using(d, s, 4);
        index(f, 3);
        element(doms.get(d).objects.containsKey(o));
        Obj source = doms.get(d).objects.get(o);
        Map<Obj, Obj> copies = new LinkedHashMap<>();
        copy(source, copies);
        arithmetic(cap.home.objects.size() + copies.size() <= 12);
        for (Obj made : copies.values()) {
            add(cap.home, made);
        }
        cap.target.fields[f] = copies.get(source);
        cap.spend();
        return copies.size();
    }

    private static Obj copy(Obj source, Map<Obj, Obj> copies) {
        if (copies.containsKey(source)) {
            return copies.get(source);
        }
        Obj made = new Obj();
        copies.put(source, made);
        for (int f = 0; f < 3; f++) {
            Object held = source.fields[f];
            made.fields[f] = held instanceof Obj ? copy((Obj) held, copies) : held;
        }
        return made;
    }

    int take(int d, int s, int f, int t) {
        Cap cap = using(d, s, 8);
        index(f, 3);
        index(t, 8);
        arithmetic(cap.target.fields[f] instanceof Cap);
        cap.spend();
        return doms.get(d).slots.put(t, (Cap) cap.target.fields[f]) == null ? 0 : 1;
    }

    int free(int d, int s) {
        Cap cap = using(d, s, 16);
        cap.spend();
        cap.target.freed = true;
        cap.home.objects.values().remove(cap.target);
        int cut = 0;
        for (Obj obj : cap.home.objects.values()) {
            for (int f = 0; f < 3; f++) {
                if (obj.fields[f] == cap.target) {
                    obj.fields[f] = 0;
                    cut++;
                }
            }
        }
        return cut;
    }

    int end(int d) {
        Dom dom = alive(d);
        long before = living();
        dom.ended = true;
        dom.objects.clear();
        dom.slots.clear();
        return (int) (before - living());
    }

    private Object held(int d, int o, int f) {
        boolean there = isDomain(d) && doms.get(d).objects.containsKey(o) && 0 <= f && f <= 2;
        return there ? doms.get(d).objects.get(o).fields[f] : null;
    }

    int holds(int d, int o, int f) {
        Object held = held(d, o, f);
        if (held instanceof Cap) {
            return ((Cap) held).dead() ? 3 : 2;
        }
        return held == null ? -1 : held instanceof Obj ? 1 : 0;
    }

    int linked(int d, int o, int f) {
        Object held = held(d, o, f);
        if (held instanceof Obj) {
            for (Map.Entry<Integer, Obj> entry : doms.get(d).objects.entrySet()) {
                if (entry.getValue() == held) {
                    return entry.getKey();
                }
            }
        }
        return -1;
    }

    int slot(int d, int s) {
        if (!isDomain(d) || doms.get(d).ended || !isSlot(s)) {
            return -1;
        }
        Cap cap = doms.get(d).slots.get(s);
        return cap == null ? 0 : cap.dead() ? 2 : 1;
    }

    int count(int what) {
        if (what < 0 || what > 9) {
            return -1;
        }
        if (what >= 4) {
            return isDomain(what - 4) ? doms.get(what - 4).objects.size() : 0;
        }
        int alive = (int) doms.stream().filter(dom -> !dom.ended).count();
        int[] answers = {doms.size(), alive, caps.size(), (int) living()};
        return answers[what];
    }
}
