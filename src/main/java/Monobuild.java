import java.util.Arrays;

/**
 * A build selector for a repository with many targets: which targets an edit affects, which of them
 * really have to run because nothing like them ran before, how they are spread over shards, and who
 * must review.
 *
 * <p>A set of files, targets or owners is a number with the bit k for the number k.
 */
public final class Monobuild {
    /** There is no such file or owner. */
    public static final int NONE = -1;

    private static final int MOST_SIGNS = 24;
    private static final int MOST_FILES = 24;
    private static final int MOST_TARGETS = 16;
    private static final int MOST_GLOBS = 4;
    private static final int MOST_RULES = 12;
    private static final int MOST_KEYS = 200;
    private static final int MOST_SHARDS = 8;
    private static final int HIGHEST_OWNER = 7;
    private static final int HIGHEST_CONTENT = 9999;
    private static final int HIGHEST_COST = 1000;
    private static final int HIGHEST_LIMIT = 16000;

    private final Text text;
    private final FileTable tree;
    private final Graph graph;
    private final KeyBook book;
    private final Spread spread;
    private final RuleBook rules;

    /** Creates a repository without files, targets and rules; the text is empty, nothing is marked. */
    public Monobuild() {
        text = new Text();
        tree = new FileTable();
        graph = new Graph();
        book = new KeyBook(tree, graph);
        spread = new Spread();
        rules = new RuleBook();
    }

    // ---- the text

    /** Types a character behind the text; returns how many characters the text has then. */
    public int type(char character) throws IllegalArgumentException, IllegalStateException {
        if (!isSign(character)) {
            throw new IllegalArgumentException("not a letter a to z, '/', '*' or '?'");
        }
        if (text.isFull()) {
            throw new IllegalStateException("the text is full");
        }
        text.append(character);
        return text.size();
    }

    /** Empties the text; returns how many characters it had. */
    public int clearText() {
        int before = text.size();
        text.empty();
        return before;
    }

    /** Tells whether the text is a path. */
    public boolean isPath() {
        return text.hasPathForm();
    }

    /** Tells whether the text is a glob. */
    public boolean isGlob() {
        return text.hasGlobForm();
    }

    // ---- files

    /** Adds the file whose path is the text, or brings it back; returns its number. */
    public int addFile(int content) throws IllegalArgumentException, IllegalStateException {
        requireContent(content);
        if (!text.hasPathForm()) {
            throw new IllegalArgumentException("the text is no path");
        }
        int file = tree.numberOf(text);
        if (tree.isThere(file)) {
            throw new IllegalStateException("the file is there");
        }
        if (file == NONE && tree.isFull()) {
            throw new IllegalStateException("there are 24 files");
        }
        if (file == NONE) {
            file = numberNewPath();
        }
        tree.put(file, content);
        return file;
    }

    /** Returns the file whose path is the text, also if it is deleted; NONE if there never was one. */
    public int findFile() {
        return tree.numberOf(text);
    }

    /** Edits a file; returns the content before. */
    public int edit(int file, int content) throws IndexOutOfBoundsException, IllegalArgumentException {
        requireFileThere(file);
        requireContent(content);
        int before = tree.contentOf(file);
        tree.put(file, content);
        return before;
    }

    /** Deletes a file; returns its content. */
    public int delete(int file) throws IndexOutOfBoundsException {
        requireFileThere(file);
        tree.remove(file);
        return tree.contentOf(file);
    }

    /** Returns the set of the files that are there. */
    public int files() {
        return tree.present();
    }

    /** Tells whether the text, as a glob, matches the path of a file. */
    public boolean matches(int file) throws IndexOutOfBoundsException, IllegalStateException {
        requireFile(file);
        if (!text.hasGlobForm()) {
            throw new IllegalStateException("the text is no glob");
        }
        return text.covers(tree.pathOf(file));
    }

    // ---- targets

    /** Adds a target without globs and dependencies; returns its number. */
    public int addTarget(int cost) throws IllegalArgumentException, IllegalStateException {
        if (cost < 1 || cost > HIGHEST_COST) {
            throw new IllegalArgumentException("the cost is not 1 to 1000");
        }
        if (graph.isFull()) {
            throw new IllegalStateException("there are 16 targets");
        }
        return graph.add(cost);
    }

    /** Gives the text as a glob to a target; returns how many inputs the target has then. */
    public int addGlob(int target)
            throws IndexOutOfBoundsException, IllegalArgumentException, IllegalStateException {
        requireTarget(target);
        requireGlob();
        Globs globs = graph.globsOf(target);
        if (globs.isFull()) {
            throw new IllegalStateException("the target has 4 globs");
        }
        globs.add(text, tree.coveredBy(text));
        return Integer.bitCount(globs.covered() & tree.present());
    }

    /** Lets a target depend on another one; returns on how many it depends then, directly. */
    public int depend(int target, int other) throws IndexOutOfBoundsException, IllegalStateException {
        requireTarget(target);
        requireTarget(other);
        if (holds(graph.dependenciesOf(target), other)) {
            throw new IllegalStateException("it depends on the other one already");
        }
        // upFrom holds the target itself too, so one look refuses both the same one and a circle.
        if (holds(graph.upFrom(1 << target), other)) {
            throw new IllegalStateException("both are the same, or the other one is above");
        }
        graph.addDependency(target, other);
        return Integer.bitCount(graph.dependenciesOf(target));
    }

    /** Returns how many targets there are. */
    public int targets() {
        return graph.size();
    }

    /** Returns the inputs of a target. */
    public int inputs(int target) throws IndexOutOfBoundsException {
        requireTarget(target);
        return graph.globsOf(target).covered() & tree.present();
    }

    /** Returns the targets that are above a target. */
    public int above(int target) throws IndexOutOfBoundsException {
        requireTarget(target);
        int self = 1 << target;
        return graph.upFrom(self) & ~self;
    }

    /** Returns the target at a place of the order. */
    public int orderAt(int place) throws IndexOutOfBoundsException {
        if (place < 0 || place >= graph.size()) {
            throw new IndexOutOfBoundsException("there are not so many targets");
        }
        graph.makeOrder();
        return graph.atPlace(place);
    }

    // ---- what is affected

    /** Returns the targets that an edit of a file affects, found by going up. */
    public int affectedBy(int file) throws IndexOutOfBoundsException {
        requireFile(file);
        return graph.upFrom(graph.covering(file));
    }

    /** Returns the same as affectedBy(), found by going down from each target. */
    public int affectedByGoingDown(int file) throws IndexOutOfBoundsException {
        requireFile(file);
        return graph.reachingDown(graph.covering(file));
    }

    // ---- running

    /** Returns the key that a target has now; 0 if it needs to run. */
    public int keyOf(int target) throws IndexOutOfBoundsException {
        requireTarget(target);
        book.lookUpAll();
        return book.keyNow(target);
    }

    /** Returns the set of the targets that need to run. */
    public int needed() {
        book.lookUpAll();
        return book.withoutKey();
    }

    /** Tells why a target needs to run: 0 it does not, 1 never run, 2 other inputs, 3 otherwise. */
    public int whyRun(int target) throws IndexOutOfBoundsException {
        requireTarget(target);
        book.lookUpAll();
        if (book.keyNow(target) != 0) {
            return 0;
        }
        if (!book.hasRun(target)) {
            return 1;
        }
        return book.hasLatestInputs(target) ? 3 : 2;
    }

    /** Runs a target if it needs to; otherwise it is found. Returns its key. */
    public int run(int target) throws IndexOutOfBoundsException, IllegalStateException {
        requireTarget(target);
        book.lookUpAll();
        if ((graph.dependenciesOf(target) & book.withoutKey()) != 0) {
            throw new IllegalStateException("a target on which it depends needs to run");
        }
        if (book.keyNow(target) == 0 && book.given() >= MOST_KEYS) {
            throw new IllegalStateException("200 keys were given");
        }
        return book.runOrFind(target);
    }

    /** Does what run() does with all targets, in their order; returns how many were run. */
    public int runAll() throws IllegalStateException {
        book.lookUpAll();
        // Who needs to run gets a new key here: a dependency that ran ahead of it has one that was
        // never given before, so nothing that was given for it stands for that.
        int running = Integer.bitCount(book.withoutKey());
        if (book.given() + running > MOST_KEYS) {
            throw new IllegalStateException("more than 200 keys would be given");
        }
        book.runOrFindAll();
        return running;
    }

    /** Returns how many keys were given so far. */
    public int keys() {
        return book.given();
    }

    // ---- shards

    /** Tells to which shard a target goes; NONE if it does not need to run. */
    public int shardOf(int target, int shards)
            throws IndexOutOfBoundsException, IllegalArgumentException {
        requireTarget(target);
        requireShards(shards);
        book.lookUpAll();
        spread.over(graph, book.withoutKey(), shards);
        return spread.placeOf(target);
    }

    /** Tells the greatest cost of a shard; 0 if no target needs to run. */
    public int longestShard(int shards) throws IllegalArgumentException {
        requireShards(shards);
        book.lookUpAll();
        spread.over(graph, book.withoutKey(), shards);
        return spread.greatestLoad();
    }

    /** Returns the fewest shards with which longestShard() is not above a limit; NONE if none are. */
    public int shardsFor(int limit) throws IllegalArgumentException {
        if (limit < 1 || limit > HIGHEST_LIMIT) {
            throw new IllegalArgumentException("the limit is not 1 to 16000");
        }
        book.lookUpAll();
        for (int shards = 1; shards <= MOST_SHARDS; shards++) {
            spread.over(graph, book.withoutKey(), shards);
            if (spread.greatestLoad() <= limit) {
                return shards;
            }
        }
        return NONE;
    }

    // ---- owners

    /** Adds a rule of owners with the text as its glob; returns how many rules there are then. */
    public int addRule(int owner)
            throws IndexOutOfBoundsException, IllegalArgumentException, IllegalStateException {
        if (owner < 0 || owner > HIGHEST_OWNER) {
            throw new IndexOutOfBoundsException("there is no such owner");
        }
        requireGlob();
        if (rules.isFull()) {
            throw new IllegalStateException("there are 12 rules");
        }
        rules.add(text, tree.coveredBy(text), owner);
        return rules.size();
    }

    /** Returns the owner of a file; NONE if no rule matches. */
    public int ownerOf(int file) throws IndexOutOfBoundsException {
        requireFile(file);
        return rules.latestOwner(file);
    }

    /** Marks the files as they are now; returns how many files are there. */
    public int mark() {
        tree.keepMark();
        return Integer.bitCount(tree.present());
    }

    /** Returns the set of the files that are not as they were marked last. */
    public int changed() {
        return tree.sinceMark();
    }

    /** Returns the set of the owners of the files in changed(). */
    public int reviewers() {
        return rules.ownersOfAll(tree.sinceMark());
    }

    // ---- what the calls ask for

    private void requireContent(int content) {
        if (content < 0 || content > HIGHEST_CONTENT) {
            throw new IllegalArgumentException("the content is not 0 to 9999");
        }
    }

    private void requireFile(int file) {
        if (!tree.has(file)) {
            throw new IndexOutOfBoundsException("there is no such file");
        }
    }

    private void requireFileThere(int file) {
        if (!tree.isThere(file)) {
            throw new IndexOutOfBoundsException("there is no such file, or it is deleted");
        }
    }

    private void requireTarget(int target) {
        if (!graph.has(target)) {
            throw new IndexOutOfBoundsException("there is no such target");
        }
    }

    private void requireGlob() {
        if (!text.hasGlobForm()) {
            throw new IllegalArgumentException("the text is no glob");
        }
    }

    private void requireShards(int shards) {
        if (shards < 1 || shards > MOST_SHARDS) {
            throw new IllegalArgumentException("the shards are not 1 to 8");
        }
    }

    private int numberNewPath() {
        int file = tree.addPath(text);
        graph.meetFile(file, text);
        rules.meetFile(file, text);
        return file;
    }

    private static boolean isSign(char character) {
        return character >= 'a' && character <= 'z'
                || character == '/' || character == '*' || character == '?';
    }

    private static boolean holds(int set, int number) {
        return (set >> number & 1) == 1;
    }

    /** The typed text, a path or a glob. */
    private static final class Text {
        private final char[] signs = new char[MOST_SIGNS];
        private int length;

        int size() {
            return length;
        }

        boolean isFull() {
            return length >= MOST_SIGNS;
        }

        void append(char sign) {
            signs[length] = sign;
            length++;
        }

        void empty() {
            length = 0;
        }

        void copyFrom(Text other) {
            length = other.length;
            for (int place = 0; place < length; place++) {
                signs[place] = other.signs[place];
            }
        }

        boolean isSameAs(Text other) {
            if (length != other.length) {
                return false;
            }
            for (int place = 0; place < length; place++) {
                if (signs[place] != other.signs[place]) {
                    return false;
                }
            }
            return true;
        }

        boolean hasPathForm() {
            for (int place = 0; place < length; place++) {
                if (signs[place] == '*' || signs[place] == '?') {
                    return false;
                }
            }
            return !hasEmptySegment();
        }

        boolean hasGlobForm() {
            for (int place = 0; place < length; place++) {
                if (isDoubleStar(place) && !(signAt(place - 1) == '/' && signAt(place + 2) == '/')) {
                    return false;
                }
            }
            return !hasEmptySegment();
        }

        /**
         * Tells whether this glob matches a path. Walks along the glob with the set of the places
         * in the path up to which the part behind can be laid; so no way is tried twice.
         */
        boolean covers(Text path) {
            int places = 1;
            int at = 0;
            while (at <= length) {
                if (isDoubleStar(at)) {
                    places = path.startsFrom(places);
                    // The '/' behind '**' is skipped too: the places are starts of segments already.
                    at += 3;
                } else {
                    char sign = signAt(at);
                    places = sign == '*' ? path.overLetters(places) : path.overSign(places, sign);
                    at++;
                }
            }
            return holds(places, path.length + 1);
        }

        /** The sign at a place; a '/' ahead of the text and behind it, so that all segments end alike. */
        private char signAt(int place) {
            return place >= 0 && place < length ? signs[place] : '/';
        }

        private boolean isDoubleStar(int place) {
            return signAt(place) == '*' && signAt(place + 1) == '*';
        }

        private boolean hasEmptySegment() {
            for (int place = 0; place <= length; place++) {
                if (signAt(place - 1) == '/' && signAt(place) == '/') {
                    return true;
                }
            }
            return false;
        }

        /** The starts of segments, and the end behind the last one, from the first of some places on. */
        private int startsFrom(int places) {
            int starts = 0;
            boolean reached = false;
            for (int place = 0; place <= length + 1; place++) {
                reached = reached || holds(places, place);
                if (reached && signAt(place - 1) == '/') {
                    starts |= 1 << place;
                }
            }
            return starts;
        }

        /** The places that are reached from some places over any number of letters. */
        private int overLetters(int places) {
            int reached = places;
            for (int place = 0; place < length; place++) {
                if (holds(reached, place) && signs[place] != '/') {
                    reached |= 1 << (place + 1);
                }
            }
            return reached;
        }

        /** The places that are reached from some places over one sign of a glob, not a '*'. */
        private int overSign(int places, char sign) {
            int reached = 0;
            for (int place = 0; place <= length; place++) {
                boolean fits = sign == '?' ? signAt(place) != '/' : signAt(place) == sign;
                if (fits && holds(places, place)) {
                    reached |= 1 << (place + 1);
                }
            }
            return reached;
        }
    }

    /** The files: their paths, which are there, with which contents, and how they were marked. */
    private static final class FileTable {
        private final Text[] paths = new Text[MOST_FILES];
        private final int[] contents = new int[MOST_FILES];
        private final int[] markedContents = new int[MOST_FILES];
        private int count;
        private int there;
        private int markedThere;

        FileTable() {
            for (int file = 0; file < MOST_FILES; file++) {
                paths[file] = new Text();
            }
        }

        boolean has(int file) {
            return file >= 0 && file < count;
        }

        boolean isThere(int file) {
            return has(file) && holds(there, file);
        }

        boolean isFull() {
            return count >= MOST_FILES;
        }

        int present() {
            return there;
        }

        Text pathOf(int file) {
            return paths[file];
        }

        int contentOf(int file) {
            return contents[file];
        }

        int numberOf(Text path) {
            for (int file = 0; file < count; file++) {
                if (paths[file].isSameAs(path)) {
                    return file;
                }
            }
            return NONE;
        }

        int addPath(Text path) {
            int file = count;
            paths[file].copyFrom(path);
            count++;
            return file;
        }

        void put(int file, int content) {
            contents[file] = content;
            there |= 1 << file;
        }

        void remove(int file) {
            there &= ~(1 << file);
        }

        /** The files whose paths a glob matches, deleted ones too. */
        int coveredBy(Text glob) {
            int covered = 0;
            for (int file = 0; file < count; file++) {
                if (glob.covers(paths[file])) {
                    covered |= 1 << file;
                }
            }
            return covered;
        }

        void keepMark() {
            markedThere = there;
            System.arraycopy(contents, 0, markedContents, 0, MOST_FILES);
        }

        int sinceMark() {
            int differing = there ^ markedThere;
            for (int file = 0; file < count; file++) {
                if (holds(there & markedThere, file) && contents[file] != markedContents[file]) {
                    differing |= 1 << file;
                }
            }
            return differing;
        }
    }

    /**
     * Some globs, each with the set of the files whose paths it matches. A path never changes, so
     * this is found once, when the glob or the file is new, and not again with every question.
     */
    private static final class Globs {
        private final Text[] patterns;
        private final int[] coveredFiles;
        private final int most;
        private int count;

        Globs(int most) {
            this.most = Math.max(0, most);
            patterns = new Text[this.most];
            coveredFiles = new int[this.most];
            for (int glob = 0; glob < this.most; glob++) {
                patterns[glob] = new Text();
            }
        }

        int size() {
            return count;
        }

        boolean isFull() {
            return count >= most;
        }

        void add(Text pattern, int covered) {
            patterns[count].copyFrom(pattern);
            coveredFiles[count] = covered;
            count++;
        }

        void meetFile(int file, Text path) {
            for (int glob = 0; glob < count; glob++) {
                if (patterns[glob].covers(path)) {
                    coveredFiles[glob] |= 1 << file;
                }
            }
        }

        /** The files whose paths some glob of these matches, deleted ones too. */
        int covered() {
            int covered = 0;
            for (int glob = 0; glob < count; glob++) {
                covered |= coveredFiles[glob];
            }
            return covered;
        }

        int latestCovering(int file) {
            for (int glob = count - 1; glob >= 0; glob--) {
                if (holds(coveredFiles[glob], file)) {
                    return glob;
                }
            }
            return NONE;
        }
    }

    /** The targets: their costs and globs, and who depends on whom. */
    private static final class Graph {
        private final int[] costs = new int[MOST_TARGETS];
        private final int[] dependencies = new int[MOST_TARGETS];
        private final Globs[] globs = new Globs[MOST_TARGETS];
        private final int[] order = new int[MOST_TARGETS];
        private int count;

        Graph() {
            for (int target = 0; target < MOST_TARGETS; target++) {
                globs[target] = new Globs(MOST_GLOBS);
            }
        }

        int size() {
            return count;
        }

        boolean has(int target) {
            return target >= 0 && target < count;
        }

        boolean isFull() {
            return count >= MOST_TARGETS;
        }

        int costOf(int target) {
            return costs[target];
        }

        int dependenciesOf(int target) {
            return dependencies[target];
        }

        Globs globsOf(int target) {
            return globs[target];
        }

        int add(int cost) {
            int target = count;
            costs[target] = cost;
            count++;
            return target;
        }

        void addDependency(int target, int other) {
            dependencies[target] |= 1 << other;
        }

        void meetFile(int file, Text path) {
            for (int target = 0; target < count; target++) {
                globs[target].meetFile(file, path);
            }
        }

        /** The targets of which a glob matches the path of a file. */
        int covering(int file) {
            int set = 0;
            for (int target = 0; target < count; target++) {
                if (holds(globs[target].covered(), file)) {
                    set |= 1 << target;
                }
            }
            return set;
        }

        /** The targets of a set and all that are above them. */
        int upFrom(int set) {
            int reached = set;
            // No way up is longer than there are targets, so that many rounds find all of it.
            for (int round = 0; round < count; round++) {
                for (int target = 0; target < count; target++) {
                    if ((dependencies[target] & reached) != 0) {
                        reached |= 1 << target;
                    }
                }
            }
            return reached;
        }

        /** The targets from which going down meets a target of a set, at once or later. */
        int reachingDown(int set) {
            int reaching = 0;
            for (int target = 0; target < count; target++) {
                if ((downFrom(target) & set) != 0) {
                    reaching |= 1 << target;
                }
            }
            return reaching;
        }

        /** Finds the order anew; atPlace() tells it then. */
        void makeOrder() {
            int placed = 0;
            for (int place = 0; place < count; place++) {
                int next = nextBehind(placed);
                order[place] = next;
                placed |= 1 << next;
            }
        }

        int atPlace(int place) {
            return order[place];
        }

        private int downFrom(int target) {
            int reached = 1 << target;
            for (int round = 0; round < count; round++) {
                for (int below = 0; below < count; below++) {
                    if (holds(reached, below)) {
                        reached |= dependencies[below];
                    }
                }
            }
            return reached;
        }

        private int nextBehind(int placed) {
            int next = 0;
            // There are no circles, so one is always free: the last one needs no look any more.
            while (next < count - 1 && !isNext(next, placed)) {
                next++;
            }
            return next;
        }

        private boolean isNext(int target, int placed) {
            return !holds(placed, target) && (dependencies[target] & ~placed) == 0;
        }
    }

    /**
     * The keys that were given, from 1 on, each with its target and a row of what it stands for: at
     * a file's number 0 if the file is no input, otherwise its content and 1 more, so that content 0
     * is not taken for no input; behind the files, at a target's number, the key of that target if
     * it is a dependency, otherwise 0.
     */
    private static final class KeyBook {
        private static final int ROW = MOST_FILES + MOST_TARGETS;

        private final FileTable tree;
        private final Graph graph;
        private final int[][] rows = new int[MOST_KEYS + 1][ROW];
        private final int[] holders = new int[MOST_KEYS + 1];
        private final int[] present = new int[MOST_TARGETS];
        private final int[] latest = new int[MOST_TARGETS];
        private final int[] row = new int[ROW];
        private int count;

        KeyBook(FileTable tree, Graph graph) {
            this.tree = tree;
            this.graph = graph;
        }

        int given() {
            return count;
        }

        /** Finds the keys that all targets have now; keyNow() and withoutKey() tell them then. */
        void lookUpAll() {
            graph.makeOrder();
            // In this order a target's dependencies have their keys ahead of it.
            for (int place = 0; place < graph.size(); place++) {
                lookUp(graph.atPlace(place));
            }
        }

        int keyNow(int target) {
            return present[target];
        }

        int withoutKey() {
            int set = 0;
            for (int target = 0; target < graph.size(); target++) {
                if (present[target] == 0) {
                    set |= 1 << target;
                }
            }
            return set;
        }

        boolean hasRun(int target) {
            return latest[target] != 0;
        }

        /** Tells whether the inputs and contents are those with which a target was run or found last. */
        boolean hasLatestInputs(int target) {
            fillRow(target);
            return agrees(latest[target], MOST_FILES);
        }

        /** Runs or finds a target whose dependencies have keys now; returns its key. */
        int runOrFind(int target) {
            lookUp(target);
            if (present[target] == 0) {
                present[target] = give(target);
            }
            latest[target] = present[target];
            return present[target];
        }

        void runOrFindAll() {
            for (int place = 0; place < graph.size(); place++) {
                runOrFind(graph.atPlace(place));
            }
        }

        private void lookUp(int target) {
            fillRow(target);
            present[target] = dependenciesHaveKeys(target) ? keyOfRow(target) : 0;
        }

        private boolean dependenciesHaveKeys(int target) {
            return (graph.dependenciesOf(target) & withoutKey()) == 0;
        }

        private void fillRow(int target) {
            int inputSet = graph.globsOf(target).covered() & tree.present();
            for (int file = 0; file < MOST_FILES; file++) {
                row[file] = holds(inputSet, file) ? tree.contentOf(file) + 1 : 0;
            }
            int dependencySet = graph.dependenciesOf(target);
            for (int other = 0; other < MOST_TARGETS; other++) {
                row[MOST_FILES + other] = holds(dependencySet, other) ? present[other] : 0;
            }
        }

        private int keyOfRow(int target) {
            for (int key = 1; key <= count; key++) {
                if (holders[key] == target && agrees(key, ROW)) {
                    return key;
                }
            }
            return 0;
        }

        private boolean agrees(int key, int length) {
            for (int i = 0; i < length; i++) {
                if (rows[key][i] != row[i]) {
                    return false;
                }
            }
            return true;
        }

        private int give(int target) {
            count++;
            holders[count] = target;
            System.arraycopy(row, 0, rows[count], 0, ROW);
            return count;
        }
    }

    /** Targets spread over shards. */
    private static final class Spread {
        private final int[] loads = new int[MOST_SHARDS];
        private final int[] places = new int[MOST_TARGETS];

        void over(Graph graph, int set, int shards) {
            Arrays.fill(loads, 0);
            Arrays.fill(places, NONE);
            int left = set;
            for (int taken = Integer.bitCount(set); taken > 0; taken--) {
                int target = dearest(graph, left);
                int shard = lightest(shards);
                places[target] = shard;
                loads[shard] += graph.costOf(target);
                left &= ~(1 << target);
            }
        }

        int placeOf(int target) {
            return places[target];
        }

        int greatestLoad() {
            int greatest = 0;
            for (int shard = 0; shard < MOST_SHARDS; shard++) {
                greatest = Math.max(greatest, loads[shard]);
            }
            return greatest;
        }

        private int dearest(Graph graph, int set) {
            int found = 0;
            int cost = 0;
            for (int target = 0; target < graph.size(); target++) {
                if (holds(set, target) && graph.costOf(target) > cost) {
                    found = target;
                    cost = graph.costOf(target);
                }
            }
            return found;
        }

        private int lightest(int shards) {
            int found = 0;
            for (int shard = 1; shard < shards; shard++) {
                if (loads[shard] < loads[found]) {
                    found = shard;
                }
            }
            return found;
        }
    }

    /** The rules of owners, the latest one last. */
    private static final class RuleBook {
        private final Globs globs = new Globs(MOST_RULES);
        private final int[] owners = new int[MOST_RULES];

        int size() {
            return globs.size();
        }

        boolean isFull() {
            return globs.isFull();
        }

        void add(Text pattern, int covered, int owner) {
            owners[globs.size()] = owner;
            globs.add(pattern, covered);
        }

        void meetFile(int file, Text path) {
            globs.meetFile(file, path);
        }

        int latestOwner(int file) {
            int rule = globs.latestCovering(file);
            return rule == NONE ? NONE : owners[rule];
        }

        int ownersOfAll(int fileSet) {
            int set = 0;
            for (int file = 0; file < MOST_FILES; file++) {
                int owner = latestOwner(file);
                if (holds(fileSet, file) && owner != NONE) {
                    set |= 1 << owner;
                }
            }
            return set;
        }
    }
}
