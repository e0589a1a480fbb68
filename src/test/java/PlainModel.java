import java.util.ArrayList;
import java.util.HashMap;
import java.util.HashSet;
import java.util.List;
import java.util.Map;
import java.util.Set;

/** The document a second time, with exceptions for faults and the library's collections. */
final class PlainModel {
    private static final int BAD = -1;
    private static final int FULL = -2;
    private static final int NONE = -3;

    private static final class Fault extends Exception {
        private static final long serialVersionUID = 1L;
        final int kind;
        final int number;
        final transient Fault root;

        Fault(int kind, int number, Fault inner) {
            this.kind = kind;
            this.number = number;
            this.root = inner == null ? this : inner.root;
        }

        static Fault of(int kind, int number) {
            return new Fault(kind, number, null);
        }
    }

    private record Formula(int module, int kind, int a, int b, int c) { }

    private record Deed(int kind, int n) { }

    private static final class ModuleTold {
        final List<Integer> row = new ArrayList<>();
        final List<Integer> used = new ArrayList<>();
        final List<Deed> deeds = new ArrayList<>();
    }

    private final List<ModuleTold> modules = new ArrayList<>();
    private final List<Formula> constants = new ArrayList<>();
    private final List<House> houses = new ArrayList<>();
    private List<int[]> trace = new ArrayList<>();
    private Fault latest = null;
    private int latestValue = 0;
    private int alikeCalls = 0;
    private int worked = 0;

    PlainModel() {
        for (int i = 0; i < 3; i++) {
            houses.add(new House(true));
        }
    }

    /** A loader; one that is not watched leaves no trace and is not counted. */
    private final class House {
        final boolean watched;
        final Map<Integer, Integer> ended = new HashMap<>();
        final Set<Integer> starting = new HashSet<>();
        final Map<Integer, List<Integer>> rows = new HashMap<>();
        final Set<Integer> working = new HashSet<>();
        final Map<Integer, Integer> values = new HashMap<>();
        final Map<Integer, Fault> faults = new HashMap<>();

        House(boolean watched) {
            this.watched = watched;
        }

        void came(int what, int number) {
            if (watched && trace.size() < 200) {
                trace.add(new int[] {what, number});
            }
        }

        int stateOf(int module) {
            return starting.contains(module) ? 2 : ended.getOrDefault(module, 0);
        }

        void begin(int module) throws Fault {
            if (starting.contains(module) || stateOf(module) == 1) {
                return;
            }
            if (stateOf(module) == 3) {
                throw Fault.of(6, module);
            }
            starting.add(module);
            came(0, module);
            ModuleTold told = modules.get(module);
            rows.put(module, new ArrayList<>(told.row));
            try {
                for (int other : told.used) {
                    begin(other);
                }
                for (Deed deed : told.deeds) {
                    if (deed.kind() == 2) {
                        throw Fault.of(7, deed.n());
                    } else if (deed.kind() == 1) {
                        begin(deed.n());
                    } else {
                        get(deed.n());
                    }
                }
                ended.put(module, 1);
                came(1, module);
            } catch (Fault inner) {
                ended.put(module, 3);
                came(2, module);
                throw new Fault(5, module, inner);
            } finally {
                starting.remove(module);
            }
        }

        int get(int constant) throws Fault {
            if (constant >= constants.size()) {
                throw Fault.of(8, constant);
            }
            begin(constants.get(constant).module());
            if (faults.containsKey(constant)) {
                throw faults.get(constant);
            }
            if (values.containsKey(constant)) {
                return values.get(constant);
            }
            if (!working.add(constant)) {
                throw Fault.of(4, constant);
            }
            came(3, constant);
            if (watched) {
                worked++;
            }
            try {
                int value = reckon(constants.get(constant));
                values.put(constant, value);
                came(4, constant);
                return value;
            } catch (Fault fault) {
                faults.put(constant, fault);
                came(5, constant);
                throw fault;
            } finally {
                working.remove(constant);
            }
        }

        int reckon(Formula f) throws Fault {
            return switch (f.kind()) {
                case 0 -> f.a();
                case 1 -> get(f.a()) + f.b();
                case 2 -> get(f.a()) * get(f.b());
                case 3 -> quotient(get(f.a()), get(f.b()));
                case 4 -> rows.get(f.module()).get(place(f.module(), get(f.a())));
                case 5 -> getOr(f.a(), f.b());
                case 6 -> throw Fault.of(3, f.a());
                case 7 -> get(f.a()) != 0 ? get(f.b()) : get(f.c());
                case 8 -> stateOf(f.a());
                case 9 -> (int) constants.stream().filter(g -> g.module() == f.a()).count();
                case 10 -> {
                    begin(f.a());
                    yield 1;
                }
                default -> {
                    int value = get(f.a());
                    rows.get(f.module()).set(place(f.module(), f.b()), value);
                    yield value;
                }
            };
        }

        int quotient(int left, int right) throws Fault {
            if (right == 0) {
                throw Fault.of(1, 0);
            }
            return (int) ((long) left / (long) right);
        }

        int getOr(int constant, int otherwise) {
            try {
                return get(constant);
            } catch (Fault fault) {
                return otherwise;
            }
        }

        int place(int module, int i) throws Fault {
            if (i < 0 || i >= modules.get(module).row.size()) {
                throw Fault.of(2, 0);
            }
            return i;
        }
    }

    private static boolean in(int n, int size) {
        return n >= 0 && n < size;
    }

    private boolean isModule(int n) {
        return in(n, modules.size());
    }

    int module(int n) {
        if (!in(n, 9)) {
            return BAD;
        }
        if (modules.size() == 12) {
            return FULL;
        }
        ModuleTold told = new ModuleTold();
        for (int i = 0; i < n; i++) {
            told.row.add(0);
        }
        modules.add(told);
        return modules.size() - 1;
    }

    int item(int module, int i, int v) {
        if (!isModule(module) || !in(i, modules.get(module).row.size())) {
            return BAD;
        }
        modules.get(module).row.set(i, v);
        return 1;
    }

    int uses(int module, int other) {
        if (!isModule(module) || !isModule(other)) {
            return BAD;
        }
        List<Integer> used = modules.get(module).used;
        if (used.size() == 6) {
            return FULL;
        }
        used.add(other);
        return used.size();
    }

    int deed(int module, int kind, int n) {
        if (!isModule(module) || !in(kind, 3) || kind == 0 && !in(n, 40) || kind == 1 && !isModule(n)) {
            return BAD;
        }
        List<Deed> deeds = modules.get(module).deeds;
        if (deeds.size() == 6) {
            return FULL;
        }
        deeds.add(new Deed(kind, n));
        return deeds.size();
    }

    int constant(int module, int kind, int a, int b, int c) {
        if (!isModule(module) || !in(kind, 12)) {
            return BAD;
        }
        boolean namesA = Set.of(1, 2, 3, 4, 5, 7, 11).contains(kind);
        boolean namesB = Set.of(2, 3, 7).contains(kind);
        if (namesA && !in(a, 40) || namesB && !in(b, 40) || kind == 7 && !in(c, 40)) {
            return BAD;
        }
        if (Set.of(8, 9, 10).contains(kind) && !isModule(a)) {
            return BAD;
        }
        if (constants.size() == 40) {
            return FULL;
        }
        constants.add(new Formula(module, kind, a, b, c));
        return constants.size() - 1;
    }

    int need(int loader, int constant) {
        if (!in(loader, 3) || !in(constant, constants.size())) {
            return BAD;
        }
        trace = new ArrayList<>();
        latest = null;
        try {
            latestValue = houses.get(loader).get(constant);
            return 1;
        } catch (Fault fault) {
            latest = fault;
            return -10 - fault.kind;
        }
    }

    int value() {
        return latestValue;
    }

    int start(int loader, int module) {
        if (!in(loader, 3) || !isModule(module)) {
            return BAD;
        }
        trace = new ArrayList<>();
        latest = null;
        try {
            houses.get(loader).begin(module);
            return 1;
        } catch (Fault fault) {
            latest = fault;
            return -10 - fault.kind;
        }
    }

    int fault(int what) {
        if (!in(what, 4)) {
            return BAD;
        }
        if (latest == null) {
            return 0;
        }
        Fault asked = what < 2 ? latest : latest.root;
        return what % 2 == 0 ? asked.kind : asked.number;
    }

    int state(int loader, int module) {
        return in(loader, 3) && isModule(module) ? houses.get(loader).stateOf(module) : BAD;
    }

    int kept(int loader, int constant) {
        if (!in(loader, 3) || !in(constant, constants.size())) {
            return BAD;
        }
        House house = houses.get(loader);
        Fault fault = house.faults.get(constant);
        return fault != null ? 10 + fault.kind : house.values.containsKey(constant) ? 1 : 0;
    }

    int row(int loader, int module, int i) {
        if (!in(loader, 3) || !isModule(module)) {
            return BAD;
        }
        List<Integer> told = modules.get(module).row;
        return in(i, told.size()) ? houses.get(loader).rows.getOrDefault(module, told).get(i) : NONE;
    }

    int trace(int i, int what) {
        if (!in(what, 2)) {
            return BAD;
        }
        return in(i, trace.size()) ? trace.get(i)[what] : NONE;
    }

    int forget(int loader) {
        if (!in(loader, 3)) {
            return BAD;
        }
        return houses.set(loader, new House(true)).ended.size();
    }

    int alike(int seed) {
        if (alikeCalls == 40) {
            return FULL;
        }
        alikeCalls++;
        List<Integer> order = new ArrayList<>();
        for (int i = 0; i < constants.size(); i++) {
            order.add(i);
        }
        Map<Integer, String> plain = outcomes(order);
        int x = seed;
        for (int k = order.size() - 1; k >= 1; k--) {
            x = x * 1103515245 + 12345;
            order.set(k, order.set((x >>> 16) % (k + 1), order.get(k)));
        }
        Map<Integer, String> mixed = outcomes(order);
        return (int) order.stream().filter(c -> !plain.get(c).equals(mixed.get(c))).count();
    }

    private Map<Integer, String> outcomes(List<Integer> order) {
        House house = new House(false);
        Map<Integer, String> outcomes = new HashMap<>();
        for (int constant : order) {
            try {
                outcomes.put(constant, "value " + house.get(constant));
            } catch (Fault fault) {
                outcomes.put(constant, "fault " + fault.kind);
            }
        }
        return outcomes;
    }

    int told(int what) {
        return switch (what) {
            case 0 -> modules.size();
            case 1 -> constants.size();
            case 2 -> trace.size();
            case 3 -> worked;
            default -> BAD;
        };
    }
}
