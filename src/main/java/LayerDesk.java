import java.util.NoSuchElementException;

/** Modules described line by line, and the layers that are made of them. */
public final class LayerDesk {
    private static final int DESCRIPTORS_MOST = 12;
    private static final int LAYERS_MOST = 5;
    private static final int ROOTS_MOST = 3;
    private static final int NO_LAYER = -1;
    private static final int LAYER_FACTOR = 16;

    private static final int FAULT_NONE = 0;
    private static final int FAULT_CYCLE = 1;
    private static final int FAULT_SPLIT = 2;
    private static final int FAULT_FIVE_LAYERS = 3;

    private final Line written;
    private final Shelf shelf;
    private final Chooser chooser;
    private final Layer[] layers;
    private int made;
    private int latestFault;

    public LayerDesk() {
        written = new Line();
        shelf = new Shelf();
        chooser = new Chooser(shelf);
        layers = new Layer[LAYERS_MOST];
        made = 0;
        latestFault = FAULT_NONE;
    }

    public boolean write(char c) {
        return written.append(c);
    }

    public int line() throws IllegalArgumentException, IllegalStateException {
        written.take();
        int outcome = shelf.accept(written);
        if (outcome == Shelf.NOT_A_LINE) {
            throw new IllegalArgumentException("not a line of a descriptor");
        }
        if (outcome == Shelf.NO_PLACE) {
            throw new IllegalStateException("the line has no place now");
        }
        return outcome;
    }

    public int layer(int finder, int parent, boolean binds)
            throws IllegalArgumentException, NoSuchElementException, IllegalStateException {
        latestFault = FAULT_NONE;
        written.take();
        Layer above = openLayer(parent);
        boolean parentIsFine = parent == NO_LAYER || above != null;
        if (!rootsAreNames() || !Shelf.isFinder(finder) || !parentIsFine) {
            throw new IllegalArgumentException("no roots, no such finder or no open parent");
        }
        chooser.begin(finder, above);
        if (!addRoots()) {
            throw new NoSuchElementException("a module is missing");
        }
        if (binds) {
            chooser.bind();
        }
        Layer draft = chooser.draft(made);
        latestFault = faultOf(draft);
        if (latestFault != FAULT_NONE) {
            throw new IllegalStateException("a cycle, a split, or five layers");
        }
        keep(draft);
        return draft.number;
    }

    public int fault() {
        return latestFault;
    }

    public boolean close(int layer) {
        Layer closing = openLayer(layer);
        if (closing == null || isParentOfOpen(closing)) {
            return false;
        }
        closing.open = false;
        return true;
    }

    public int count(int what) {
        switch (what) {
            case 0:
                return shelf.size;
            case 1:
                return made;
            case 2:
                return countOpen();
            default:
                return -1;
        }
    }

    public int modules(int layer) {
        Layer asked = openLayer(layer);
        return asked == null ? -1 : asked.members.length;
    }

    public int module(int layer, int k) {
        Member member = memberAt(layer, k);
        return member == null ? -1 : member.descriptor.number;
    }

    public boolean reads(int layer, int k, int target, int descriptor) {
        Member reader = memberAt(layer, k);
        Member other = memberOf(target, descriptor);
        return reader != null && other != null && reader.reading.marks(other);
    }

    public int load(int layer, int k) throws IllegalArgumentException, NoSuchElementException {
        int packageName = written.takeName();
        Member reader = memberAt(layer, k);
        if (reader == null || packageName == Line.NO_NAME) {
            throw new IllegalArgumentException("no such module, or no name");
        }
        Member source = reader.descriptor.packages.holds(packageName) ? reader : reader.sourceOf(packageName);
        if (source == null) {
            throw new NoSuchElementException("the package comes from nowhere");
        }
        return source.code();
    }

    public boolean peek(int layer, int k, int target, int descriptor)
            throws IllegalArgumentException, NoSuchElementException {
        int packageName = written.takeName();
        Member reader = memberAt(layer, k);
        Member other = memberOf(target, descriptor);
        if (reader == null || other == null || packageName == Line.NO_NAME) {
            throw new IllegalArgumentException("no such module, or no name");
        }
        if (!other.descriptor.packages.holds(packageName)) {
            throw new NoSuchElementException("the module has no such package");
        }
        return reader == other
                || reader.reading.marks(other) && other.descriptor.opensTo(packageName, reader.descriptor.name);
    }

    public int provider(int layer, int i) throws IllegalArgumentException {
        int service = written.takeName();
        Layer asked = openLayer(layer);
        if (asked == null || service == Line.NO_NAME) {
            throw new IllegalArgumentException("the layer is not open, or no name");
        }
        Member found = asked.providerOf(service, i);
        return found == null ? -1 : found.code();
    }

    private Layer openLayer(int number) {
        if (number < 0 || number >= made) {
            return null;
        }
        Layer found = layers[number];
        return found != null && found.open ? found : null;
    }

    private Member memberAt(int layer, int k) {
        Layer asked = openLayer(layer);
        return asked == null || k < 0 || k >= asked.members.length ? null : asked.members[k];
    }

    private Member memberOf(int layer, int descriptor) {
        Layer asked = openLayer(layer);
        return asked == null ? null : asked.withDescriptor(descriptor);
    }

    private boolean rootsAreNames() {
        if (written.words < 1 || written.words > ROOTS_MOST) {
            return false;
        }
        for (int i = 0; i < written.words; i++) {
            if (written.nameAt(i) == Line.NO_NAME) {
                return false;
            }
        }
        return true;
    }

    private boolean addRoots() {
        for (int i = 0; i < written.words; i++) {
            if (!chooser.addRoot(written.nameAt(i))) {
                return false;
            }
        }
        return true;
    }

    private int faultOf(Layer draft) {
        if (draft.hasCycle()) {
            return FAULT_CYCLE;
        }
        if (draft.hasSplit()) {
            return FAULT_SPLIT;
        }
        return made >= LAYERS_MOST ? FAULT_FIVE_LAYERS : FAULT_NONE;
    }

    private void keep(Layer draft) {
        if (made >= LAYERS_MOST) {
            return;
        }
        layers[made] = draft;
        made++;
        for (int k = 0; k < draft.members.length; k++) {
            draft.members[k].descriptor.settled = true;
        }
    }

    private boolean isParentOfOpen(Layer parent) {
        for (int n = 0; n < made; n++) {
            Layer other = openLayer(n);
            if (other != null && other.parent == parent) {
                return true;
            }
        }
        return false;
    }

    private int countOpen() {
        int open = 0;
        for (int n = 0; n < made; n++) {
            if (openLayer(n) != null) {
                open++;
            }
        }
        return open;
    }

    /** The line that is written, and the words of the line that was taken last. */
    private static final class Line {
        static final int NO_NAME = 0;
        private static final int LENGTH_MOST = 40;
        private static final int WORDS_MOST = 20;
        private static final int NAME_LENGTH_MOST = 4;
        private static final int NAME_BASE = 27;

        private final char[] text = new char[LENGTH_MOST];
        private final int[] starts = new int[WORDS_MOST];
        private final int[] ends = new int[WORDS_MOST];
        private int length = 0;
        int words = 0;

        boolean append(char c) {
            if (length >= LENGTH_MOST || c < 32 || c > 126) {
                return false;
            }
            text[length] = c;
            length++;
            return true;
        }

        /** The words stay readable until the next character is written. */
        void take() {
            words = 0;
            int start = 0;
            for (int i = 0; i <= length; i++) {
                if (i == length || text[i] == ' ') {
                    if (i > start && words < WORDS_MOST) {
                        starts[words] = start;
                        ends[words] = i;
                        words++;
                    }
                    start = i + 1;
                }
            }
            length = 0;
        }

        int takeName() {
            take();
            return words == 1 ? nameAt(0) : NO_NAME;
        }

        boolean wordIs(int i, String word) {
            if (i < 0 || i >= words || ends[i] - starts[i] != word.length()) {
                return false;
            }
            for (int p = 0; p < word.length(); p++) {
                if (text[starts[i] + p] != word.charAt(p)) {
                    return false;
                }
            }
            return true;
        }

        /** A name as a number, so that names are compared without making texts. */
        int nameAt(int i) {
            if (i < 0 || i >= words || ends[i] - starts[i] > NAME_LENGTH_MOST) {
                return NO_NAME;
            }
            int name = 0;
            for (int p = starts[i]; p < ends[i]; p++) {
                if (text[p] < 'a' || text[p] > 'z') {
                    return NO_NAME;
                }
                name = name * NAME_BASE + (text[p] - 'a' + 1);
            }
            return name;
        }
    }

    /** Names in their order, up to a limit. */
    private static final class Names {
        private final int[] entries;
        int size;

        Names(int most) {
            entries = new int[most];
            size = 0;
        }

        int at(int i) {
            return i < 0 || i >= size ? Line.NO_NAME : entries[i];
        }

        int indexOf(int name) {
            for (int i = 0; i < size; i++) {
                if (entries[i] == name) {
                    return i;
                }
            }
            return -1;
        }

        boolean holds(int name) {
            return indexOf(name) >= 0;
        }

        boolean isFull() {
            return size >= entries.length;
        }

        void append(int name) {
            if (!isFull()) {
                entries[size] = name;
                size++;
            }
        }
    }

    /** To whom a package is exported, or opened. */
    private static final class Grant {
        static final int TO_ALL = Line.NO_NAME;
        private static final int NAMES_MOST = 3;

        private final Names names = new Names(NAMES_MOST);
        private boolean toAll = false;

        boolean covers(int name) {
            return toAll || names.indexOf(name) >= 0;
        }

        boolean hasRoomFor(int receiver) {
            return receiver == TO_ALL || covers(receiver) || !names.isFull();
        }

        void extendTo(int receiver) {
            if (receiver == TO_ALL) {
                toAll = true;
            } else if (!covers(receiver)) {
                names.append(receiver);
            }
        }
    }

    /** What the lines said about one module. */
    private static final class Descriptor {
        private static final int PACKAGES_MOST = 6;
        private static final int REQUIRES_MOST = 5;
        private static final int SERVICES_MOST = 3;

        final int number;
        final int finder;
        final int name;
        final Names packages = new Names(PACKAGES_MOST);
        private final Grant[] exported = new Grant[PACKAGES_MOST];
        private final Grant[] opened = new Grant[PACKAGES_MOST];
        final Names required = new Names(REQUIRES_MOST);
        final boolean[] transitive = new boolean[REQUIRES_MOST];
        final boolean[] optional = new boolean[REQUIRES_MOST];
        final Names used = new Names(SERVICES_MOST);
        final Names provided = new Names(SERVICES_MOST);
        /** A layer was made of it, so that no line may change it any more. */
        boolean settled = false;

        Descriptor(int number, int finder, int name) {
            this.number = number;
            this.finder = finder;
            this.name = name;
        }

        void addPackage(int packageName) {
            if (!packages.isFull()) {
                exported[packages.size] = new Grant();
                opened[packages.size] = new Grant();
                packages.append(packageName);
            }
        }

        void addRequired(int requiredName, boolean isTransitive, boolean isOptional) {
            if (!required.isFull()) {
                transitive[required.size] = isTransitive;
                optional[required.size] = isOptional;
                required.append(requiredName);
            }
        }

        Grant exportOf(int packageName) {
            int i = packages.indexOf(packageName);
            return i < 0 ? null : exported[i];
        }

        Grant openingOf(int packageName) {
            int i = packages.indexOf(packageName);
            return i < 0 ? null : opened[i];
        }

        boolean exportsTo(int packageName, int reader) {
            int i = packages.indexOf(packageName);
            return i >= 0 && exported[i].covers(reader);
        }

        boolean opensTo(int packageName, int reader) {
            int i = packages.indexOf(packageName);
            return i >= 0 && opened[i].covers(reader);
        }
    }

    /** All descriptors, and the reading of lines into them. */
    private static final class Shelf {
        static final int NOT_A_LINE = -1;
        static final int NO_PLACE = -2;
        private static final int BLANK = 0;
        private static final int NEW_DESCRIPTOR = 1;
        private static final int ABOUT_LATEST = 2;
        private static final int NO_FINDER = -1;

        final Descriptor[] descriptors = new Descriptor[DESCRIPTORS_MOST];
        int size = 0;

        static boolean isFinder(int finder) {
            return finder == 0 || finder == 1;
        }

        Descriptor find(int finder, int name) {
            for (int d = 0; d < size; d++) {
                if (descriptors[d].finder == finder && descriptors[d].name == name) {
                    return descriptors[d];
                }
            }
            return null;
        }

        int accept(Line line) {
            if (line.words == 0) {
                return BLANK;
            }
            if (line.wordIs(0, "module")) {
                return acceptDescriptor(line);
            }
            if (line.wordIs(0, "package")) {
                return acceptPackage(line);
            }
            if (line.wordIs(0, "exports") || line.wordIs(0, "opens")) {
                return acceptGrant(line);
            }
            if (line.wordIs(0, "requires")) {
                return acceptRequired(line);
            }
            if (line.wordIs(0, "uses") || line.wordIs(0, "provides")) {
                return acceptService(line);
            }
            return NOT_A_LINE;
        }

        private Descriptor latest() {
            return size == 0 ? null : descriptors[size - 1];
        }

        private int acceptDescriptor(Line line) {
            int finder = line.wordIs(1, "0") ? 0 : line.wordIs(1, "1") ? 1 : NO_FINDER;
            int name = line.nameAt(2);
            boolean isForm = line.words == 3 && finder != NO_FINDER && name != Line.NO_NAME;
            if (!isForm || find(finder, name) != null) {
                return NOT_A_LINE;
            }
            if (size >= DESCRIPTORS_MOST) {
                return NO_PLACE;
            }
            descriptors[size] = new Descriptor(size, finder, name);
            size++;
            return NEW_DESCRIPTOR;
        }

        private int acceptPackage(Line line) {
            int name = line.nameAt(1);
            if (line.words != 2 || name == Line.NO_NAME) {
                return NOT_A_LINE;
            }
            Descriptor latest = latest();
            if (latest == null) {
                return NO_PLACE;
            }
            if (latest.packages.holds(name)) {
                return NOT_A_LINE;
            }
            if (latest.settled || latest.packages.isFull()) {
                return NO_PLACE;
            }
            latest.addPackage(name);
            return ABOUT_LATEST;
        }

        private int acceptGrant(Line line) {
            int packageName = line.nameAt(1);
            int receiver = line.words == 2 ? Grant.TO_ALL : line.nameAt(3);
            boolean toName = line.words == 4 && line.wordIs(2, "to") && receiver != Line.NO_NAME;
            if (packageName == Line.NO_NAME || line.words != 2 && !toName) {
                return NOT_A_LINE;
            }
            Descriptor latest = latest();
            if (latest == null) {
                return NO_PLACE;
            }
            Grant grant = line.wordIs(0, "exports") ? latest.exportOf(packageName) : latest.openingOf(packageName);
            if (grant == null) {
                return NOT_A_LINE;
            }
            if (latest.settled || !grant.hasRoomFor(receiver)) {
                return NO_PLACE;
            }
            grant.extendTo(receiver);
            return ABOUT_LATEST;
        }

        private int acceptRequired(Line line) {
            boolean isTransitive = line.words >= 3 && line.wordIs(1, "transitive");
            boolean isOptional = line.words >= 3 && line.wordIs(line.words - 2, "static");
            int formWords = 2 + (isTransitive ? 1 : 0) + (isOptional ? 1 : 0);
            int name = line.nameAt(line.words - 1);
            if (line.words != formWords || name == Line.NO_NAME) {
                return NOT_A_LINE;
            }
            Descriptor latest = latest();
            if (latest == null) {
                return NO_PLACE;
            }
            if (latest.name == name || latest.required.holds(name)) {
                return NOT_A_LINE;
            }
            if (latest.settled || latest.required.isFull()) {
                return NO_PLACE;
            }
            latest.addRequired(name, isTransitive, isOptional);
            return ABOUT_LATEST;
        }

        private int acceptService(Line line) {
            int service = line.nameAt(1);
            if (line.words != 2 || service == Line.NO_NAME) {
                return NOT_A_LINE;
            }
            Descriptor latest = latest();
            if (latest == null) {
                return NO_PLACE;
            }
            Names services = line.wordIs(0, "uses") ? latest.used : latest.provided;
            if (services.holds(service)) {
                return NOT_A_LINE;
            }
            if (latest.settled || services.isFull()) {
                return NO_PLACE;
            }
            services.append(service);
            return ABOUT_LATEST;
        }
    }

    /**
     * Chooses the descriptors of a layer that is being made. It makes no modules yet, since
     * binding may try and take back the same descriptors many times.
     */
    private static final class Chooser {
        private final Shelf shelf;
        private final Descriptor[] chosen = new Descriptor[DESCRIPTORS_MOST];
        private int size = 0;
        private int finder = 0;
        private Layer parent = null;

        Chooser(Shelf shelf) {
            this.shelf = shelf;
        }

        void begin(int newFinder, Layer newParent) {
            finder = newFinder;
            parent = newParent;
            size = 0;
        }

        boolean addRoot(int name) {
            return addName(name, 0);
        }

        void bind() {
            // Every pass but the last adds a descriptor, so there are no more passes than this.
            for (int pass = 0; pass <= DESCRIPTORS_MOST; pass++) {
                int before = size;
                bindOnce();
                if (size == before) {
                    return;
                }
            }
        }

        Layer draft(int number) {
            Layer draft = new Layer(number, parent, size);
            for (int k = 0; k < size; k++) {
                draft.members[k] = new Member(draft, chosen[k]);
            }
            draft.connect();
            return draft;
        }

        /** False when something is missing; what came on the way is still there then. */
        private boolean addName(int name, int depth) {
            Descriptor found = shelf.find(finder, name);
            if (found == null) {
                return parent != null && parent.lookUp(name) != null;
            }
            if (isChosen(found)) {
                return true;
            }
            if (size >= DESCRIPTORS_MOST || depth >= DESCRIPTORS_MOST) {
                return false;
            }
            chosen[size] = found;
            size++;
            for (int i = 0; i < found.required.size; i++) {
                if (!found.optional[i] && !addName(found.required.at(i), depth + 1)) {
                    return false;
                }
            }
            return true;
        }

        private boolean isChosen(Descriptor descriptor) {
            for (int k = 0; k < size; k++) {
                if (chosen[k] == descriptor) {
                    return true;
                }
            }
            return false;
        }

        private void bindOnce() {
            for (int k = 0; k < size && k < DESCRIPTORS_MOST; k++) {
                bindUsesOf(chosen[k]);
            }
            for (Layer above = parent; above != null; above = above.parent) {
                for (int k = 0; k < above.members.length; k++) {
                    bindUsesOf(above.members[k].descriptor);
                }
            }
        }

        private void bindUsesOf(Descriptor user) {
            for (int i = 0; i < user.used.size; i++) {
                bindProvidersOf(user.used.at(i));
            }
        }

        private void bindProvidersOf(int service) {
            for (int d = 0; d < shelf.size; d++) {
                Descriptor candidate = shelf.descriptors[d];
                int before = size;
                if (candidate.finder == finder && candidate.provided.holds(service)
                        && !isChosen(candidate) && !addName(candidate.name, 0)) {
                    size = before;
                }
            }
        }
    }

    /** A set of modules, each known by its layer's number and its descriptor's number. */
    private static final class Reach {
        /** One more than the layers that can be kept: a sixth is still looked at for its faults. */
        private static final int ROWS = LAYERS_MOST + 1;

        private final int[] rows = new int[ROWS];

        void mark(Member member) {
            rows[member.home.number] |= 1 << member.descriptor.number;
        }

        void unmark(Member member) {
            rows[member.home.number] &= ~(1 << member.descriptor.number);
        }

        boolean marks(Member member) {
            return (rows[member.home.number] >> member.descriptor.number & 1) != 0;
        }

        void join(Reach other) {
            for (int r = 0; r < ROWS; r++) {
                rows[r] |= other.rows[r];
            }
        }
    }

    /** A module: a descriptor in a layer. */
    private static final class Member {
        final Layer home;
        final Descriptor descriptor;
        /** What each required name is; null for a static one that is not found. */
        private final Member[] required;
        /** What it leads to by requires that are not static; ways above are cut, none leads back. */
        final Reach leading = new Reach();
        /** What those that require it read through it. */
        final Reach carried = new Reach();
        final Reach reading = new Reach();

        Member(Layer home, Descriptor descriptor) {
            this.home = home;
            this.descriptor = descriptor;
            required = new Member[descriptor.required.size];
        }

        /** The first steps alone; the layer follows them further among its modules. */
        void takeFirstSteps() {
            for (int i = 0; i < required.length; i++) {
                Member other = home.lookUp(descriptor.required.at(i));
                required[i] = other;
                if (other != null && !descriptor.optional[i]) {
                    leading.mark(other);
                }
                if (other != null && descriptor.transitive[i]) {
                    carried.mark(other);
                    if (other.home != home) {
                        carried.join(other.carried);
                    }
                }
            }
        }

        void settleReading() {
            for (int i = 0; i < required.length; i++) {
                if (required[i] != null) {
                    reading.mark(required[i]);
                    reading.join(required[i].carried);
                }
            }
            reading.unmark(this);
        }

        /** The first module that it reads and that exports the package to it. */
        Member sourceOf(int packageName) {
            for (Layer at = home; at != null; at = at.parent) {
                for (int k = 0; k < at.members.length; k++) {
                    Member other = at.members[k];
                    if (reading.marks(other) && other.descriptor.exportsTo(packageName, descriptor.name)) {
                        return other;
                    }
                }
            }
            return null;
        }

        /** Whether it reads the other one and is exported a package that it has or gets elsewhere. */
        boolean isSplitBy(Member other) {
            if (!reading.marks(other)) {
                return false;
            }
            Names offered = other.descriptor.packages;
            for (int i = 0; i < offered.size; i++) {
                int packageName = offered.at(i);
                if (other.descriptor.exportsTo(packageName, descriptor.name)
                        && (descriptor.packages.holds(packageName) || sourceOf(packageName) != other)) {
                    return true;
                }
            }
            return false;
        }

        int code() {
            return LAYER_FACTOR * home.number + descriptor.number;
        }
    }

    /** Modules in their order, below those of its parent. */
    private static final class Layer {
        final int number;
        final Layer parent;
        final Member[] members;
        boolean open;

        Layer(int number, Layer parent, int size) {
            this.number = number;
            this.parent = parent;
            members = new Member[size];
            open = true;
        }

        Member lookUp(int name) {
            for (Layer at = this; at != null; at = at.parent) {
                for (int k = 0; k < at.members.length; k++) {
                    if (at.members[k].descriptor.name == name) {
                        return at.members[k];
                    }
                }
            }
            return null;
        }

        Member withDescriptor(int descriptor) {
            for (int k = 0; k < members.length; k++) {
                if (members[k].descriptor.number == descriptor) {
                    return members[k];
                }
            }
            return null;
        }

        Member providerOf(int service, int index) {
            int passed = 0;
            for (Layer at = this; at != null; at = at.parent) {
                for (int k = 0; k < at.members.length; k++) {
                    if (at.members[k].descriptor.provided.holds(service)) {
                        if (passed == index) {
                            return at.members[k];
                        }
                        passed++;
                    }
                }
            }
            return null;
        }

        void connect() {
            Reach[] leading = new Reach[members.length];
            Reach[] carried = new Reach[members.length];
            for (int k = 0; k < members.length; k++) {
                members[k].takeFirstSteps();
                leading[k] = members[k].leading;
                carried[k] = members[k].carried;
            }
            follow(leading);
            follow(carried);
            for (int k = 0; k < members.length; k++) {
                members[k].settleReading();
            }
        }

        boolean hasCycle() {
            for (int k = 0; k < members.length; k++) {
                if (members[k].leading.marks(members[k])) {
                    return true;
                }
            }
            return false;
        }

        boolean hasSplit() {
            for (int k = 0; k < members.length; k++) {
                for (Layer at = this; at != null; at = at.parent) {
                    for (int i = 0; i < at.members.length; i++) {
                        if (members[k].isSplitBy(at.members[i])) {
                            return true;
                        }
                    }
                }
            }
            return false;
        }

        /** Makes single steps into ways of any length, by one module after the other. */
        private void follow(Reach[] steps) {
            for (int via = 0; via < members.length; via++) {
                for (int k = 0; k < members.length; k++) {
                    if (steps[k].marks(members[via])) {
                        steps[k].join(steps[via]);
                    }
                }
            }
        }
    }
}
