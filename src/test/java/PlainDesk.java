import java.util.ArrayList;
import java.util.Arrays;
import java.util.LinkedHashMap;
import java.util.LinkedHashSet;
import java.util.List;
import java.util.Map;
import java.util.Set;

/**
 * A second reading of the document, word by word and without any care for speed. A call that
 * throws answers the number that Check has for the exception.
 */
final class PlainDesk {
    private static final class Seen {
        boolean all;
        final Set<String> names = new LinkedHashSet<>();

        boolean by(String name) {
            return all || names.contains(name);
        }
    }

    private static final class Need {
        String name;
        boolean transitive;
        boolean isStatic;
    }

    private static final class Desc {
        int number;
        int finder;
        String name;
        final List<String> packages = new ArrayList<>();
        final Map<String, Seen> exported = new LinkedHashMap<>();
        final Map<String, Seen> opened = new LinkedHashMap<>();
        final List<Need> needs = new ArrayList<>();
        final List<String> uses = new ArrayList<>();
        final List<String> provides = new ArrayList<>();

        boolean needsName(String other) {
            return needs.stream().anyMatch(n -> n.name.equals(other));
        }
    }

    private static final class Mod {
        Stage stage;
        Desc desc;
    }

    private static final class Stage {
        int number;
        Stage parent;
        boolean open = true;
        final List<Mod> mods = new ArrayList<>();

        Mod find(String name) {
            for (Mod mod : mods) {
                if (mod.desc.name.equals(name)) {
                    return mod;
                }
            }
            return parent == null ? null : parent.find(name);
        }
    }

    private static final class Missing extends Exception {
        private static final long serialVersionUID = 1L;
    }

    private final List<Desc> descs = new ArrayList<>();
    private final List<Stage> stages = new ArrayList<>();
    private int fault = 0;

    private static List<String> words(String text) {
        List<String> words = new ArrayList<>(Arrays.asList(text.split(" +")));
        words.removeIf(String::isEmpty);
        return words;
    }

    private static boolean isName(String word) {
        return word.matches("[a-z]{1,4}");
    }

    int line(String text) {
        List<String> words = words(text);
        String joined = String.join(" ", words);
        String n = "[a-z]{1,4}";
        if (words.isEmpty()) {
            return 0;
        }
        if (joined.matches("module [01] " + n)) {
            return moduleLine(Integer.parseInt(words.get(1)), words.get(2));
        }
        boolean known = joined.matches("(package|uses|provides) " + n)
                || joined.matches("(exports|opens) " + n + "( to " + n + ")?")
                || joined.matches("requires (transitive )?(static )?" + n);
        if (!known) {
            return Check.IAE;
        }
        if (descs.isEmpty()) {
            return Check.ISE;
        }
        Desc d = descs.get(descs.size() - 1);
        String subject = words.get(words.size() - 1);
        switch (words.get(0)) {
            case "package":
                if (d.packages.contains(subject)) {
                    return Check.IAE;
                }
                if (settled(d) || d.packages.size() == 6) {
                    return Check.ISE;
                }
                d.packages.add(subject);
                d.exported.put(subject, new Seen());
                d.opened.put(subject, new Seen());
                return 2;
            case "requires":
                return requiresLine(d, joined, subject);
            case "uses":
                return serviceLine(d, d.uses, subject);
            case "provides":
                return serviceLine(d, d.provides, subject);
            default:
                return seenLine(d, words);
        }
    }

    private int moduleLine(int finder, String name) {
        if (inFinder(finder, name) != null) {
            return Check.IAE;
        }
        if (descs.size() == 12) {
            return Check.ISE;
        }
        Desc d = new Desc();
        d.number = descs.size();
        d.finder = finder;
        d.name = name;
        descs.add(d);
        return 1;
    }

    private int requiresLine(Desc d, String joined, String name) {
        if (d.name.equals(name) || d.needsName(name)) {
            return Check.IAE;
        }
        if (settled(d) || d.needs.size() == 5) {
            return Check.ISE;
        }
        Need need = new Need();
        need.name = name;
        need.transitive = joined.contains(" transitive ");
        need.isStatic = joined.contains(" static ");
        d.needs.add(need);
        return 2;
    }

    private int serviceLine(Desc d, List<String> services, String service) {
        if (services.contains(service)) {
            return Check.IAE;
        }
        if (settled(d) || services.size() == 3) {
            return Check.ISE;
        }
        services.add(service);
        return 2;
    }

    private int seenLine(Desc d, List<String> words) {
        Seen seen = (words.get(0).equals("exports") ? d.exported : d.opened).get(words.get(1));
        if (seen == null) {
            return Check.IAE;
        }
        if (settled(d)) {
            return Check.ISE;
        }
        if (words.size() == 2) {
            seen.all = true;
        } else if (!seen.by(words.get(3))) {
            if (seen.names.size() == 3) {
                return Check.ISE;
            }
            seen.names.add(words.get(3));
        }
        return 2;
    }

    private boolean settled(Desc d) {
        return stages.stream().anyMatch(s -> s.mods.stream().anyMatch(m -> m.desc == d));
    }

    private Desc inFinder(int finder, String name) {
        for (Desc d : descs) {
            if (d.finder == finder && d.name.equals(name)) {
                return d;
            }
        }
        return null;
    }

    int layer(String text, int finder, int parent, boolean binds) {
        fault = 0;
        List<String> roots = words(text);
        boolean fine = !roots.isEmpty() && roots.size() <= 3 && roots.stream().allMatch(PlainDesk::isName);
        if (!fine || finder < 0 || finder > 1 || parent != -1 && open(parent) == null) {
            return Check.IAE;
        }
        Stage stage = new Stage();
        stage.number = stages.size();
        stage.parent = open(parent);
        try {
            for (String root : roots) {
                add(stage, finder, root);
            }
        } catch (Missing e) {
            return Check.NSEE;
        }
        boolean again = binds;
        while (again) {
            again = bindPass(stage, finder);
        }
        for (Mod mod : stage.mods) {
            if (leads(mod, mod, new LinkedHashSet<>())) {
                fault = 1;
                return Check.ISE;
            }
        }
        for (Mod mod : stage.mods) {
            if (split(mod)) {
                fault = 2;
                return Check.ISE;
            }
        }
        if (stages.size() == 5) {
            fault = 3;
            return Check.ISE;
        }
        stages.add(stage);
        return stage.number;
    }

    private static boolean has(Stage stage, Desc d) {
        return stage.mods.stream().anyMatch(m -> m.desc == d);
    }

    private void add(Stage stage, int finder, String name) throws Missing {
        Desc d = inFinder(finder, name);
        if (d == null) {
            if (stage.parent == null || stage.parent.find(name) == null) {
                throw new Missing();
            }
        } else if (!has(stage, d)) {
            Mod mod = new Mod();
            mod.stage = stage;
            mod.desc = d;
            stage.mods.add(mod);
            for (Need need : d.needs) {
                if (!need.isStatic) {
                    add(stage, finder, need.name);
                }
            }
        }
    }

    private boolean bindPass(Stage stage, int finder) {
        int before = stage.mods.size();
        for (Stage at = stage; at != null; at = at.parent) {
            for (int k = 0; k < at.mods.size(); k++) {
                for (String service : at.mods.get(k).desc.uses) {
                    for (Desc d : descs) {
                        if (d.finder == finder && d.provides.contains(service) && !has(stage, d)) {
                            List<Mod> kept = new ArrayList<>(stage.mods);
                            try {
                                add(stage, finder, d.name);
                            } catch (Missing e) {
                                stage.mods.clear();
                                stage.mods.addAll(kept);
                            }
                        }
                    }
                }
            }
        }
        return stage.mods.size() != before;
    }

    private static boolean leads(Mod from, Mod to, Set<Mod> been) {
        for (Need need : from.desc.needs) {
            Mod next = need.isStatic ? null : from.stage.find(need.name);
            if (next == to) {
                return true;
            }
            if (next != null && been.add(next) && leads(next, to, been)) {
                return true;
            }
        }
        return false;
    }

    private static Set<Mod> readBy(Mod mod) {
        Set<Mod> read = new LinkedHashSet<>();
        for (Need need : mod.desc.needs) {
            collect(mod.stage.find(need.name), read);
        }
        read.remove(mod);
        return read;
    }

    private static void collect(Mod mod, Set<Mod> read) {
        if (mod != null && read.add(mod)) {
            for (Need need : mod.desc.needs) {
                if (need.transitive) {
                    collect(mod.stage.find(need.name), read);
                }
            }
        }
    }

    private static List<Mod> exporters(Mod mod, String packageName) {
        List<Mod> found = new ArrayList<>();
        for (Mod other : readBy(mod)) {
            Seen seen = other.desc.exported.get(packageName);
            if (seen != null && seen.by(mod.desc.name)) {
                found.add(other);
            }
        }
        return found;
    }

    private boolean split(Mod mod) {
        Set<String> all = new LinkedHashSet<>();
        descs.forEach(d -> all.addAll(d.packages));
        for (String packageName : all) {
            int sources = exporters(mod, packageName).size() + (mod.desc.packages.contains(packageName) ? 1 : 0);
            if (sources > 1) {
                return true;
            }
        }
        return false;
    }

    int fault() {
        return fault;
    }

    boolean close(int layer) {
        Stage stage = open(layer);
        if (stage == null || stages.stream().anyMatch(s -> s.open && s.parent == stage)) {
            return false;
        }
        stage.open = false;
        return true;
    }

    int count(int what) {
        int[] counts = {descs.size(), stages.size(), (int) stages.stream().filter(s -> s.open).count()};
        return what < 0 || what > 2 ? -1 : counts[what];
    }

    int modules(int layer) {
        Stage stage = open(layer);
        return stage == null ? -1 : stage.mods.size();
    }

    int module(int layer, int k) {
        Mod mod = mod(layer, k);
        return mod == null ? -1 : mod.desc.number;
    }

    boolean reads(int layer, int k, int target, int descriptor) {
        Mod mod = mod(layer, k);
        Mod other = of(target, descriptor);
        return mod != null && other != null && readBy(mod).contains(other);
    }

    int load(String text, int layer, int k) {
        Mod mod = mod(layer, k);
        List<String> words = words(text);
        if (mod == null || words.size() != 1 || !isName(words.get(0))) {
            return Check.IAE;
        }
        if (mod.desc.packages.contains(words.get(0))) {
            return code(mod);
        }
        List<Mod> sources = exporters(mod, words.get(0));
        return sources.isEmpty() ? Check.NSEE : code(sources.get(0));
    }

    int peek(String text, int layer, int k, int target, int descriptor) {
        Mod mod = mod(layer, k);
        Mod other = of(target, descriptor);
        List<String> words = words(text);
        if (mod == null || other == null || words.size() != 1 || !isName(words.get(0))) {
            return Check.IAE;
        }
        Seen seen = other.desc.opened.get(words.get(0));
        if (seen == null) {
            return Check.NSEE;
        }
        return mod == other || readBy(mod).contains(other) && seen.by(mod.desc.name) ? 1 : 0;
    }

    int provider(String text, int layer, int i) {
        List<String> words = words(text);
        if (open(layer) == null || words.size() != 1 || !isName(words.get(0))) {
            return Check.IAE;
        }
        List<Integer> codes = new ArrayList<>();
        for (Stage at = open(layer); at != null; at = at.parent) {
            for (Mod mod : at.mods) {
                if (mod.desc.provides.contains(words.get(0))) {
                    codes.add(code(mod));
                }
            }
        }
        return i < 0 || i >= codes.size() ? -1 : codes.get(i);
    }

    private static int code(Mod mod) {
        return 16 * mod.stage.number + mod.desc.number;
    }

    private Stage open(int layer) {
        return layer < 0 || layer >= stages.size() || !stages.get(layer).open ? null : stages.get(layer);
    }

    private Mod mod(int layer, int k) {
        Stage stage = open(layer);
        return stage == null || k < 0 || k >= stage.mods.size() ? null : stage.mods.get(k);
    }

    private Mod of(int layer, int descriptor) {
        Stage stage = open(layer);
        if (stage != null) {
            for (Mod mod : stage.mods) {
                if (mod.desc.number == descriptor) {
                    return mod;
                }
            }
        }
        return null;
    }
}
