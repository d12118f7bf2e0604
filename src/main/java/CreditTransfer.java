import java.util.NoSuchElementException;

/** A desk for credits of students that come from other universities. */
public final class CreditTransfer {
    private static final int LAST_YEAR = 60;
    private static final int MOST_CREDITS = 6;
    private static final int MOST_POINTS = 12;
    private static final int BEST_GRADE = 20;
    private static final int PASSING_GRADE = 10;
    private static final int MOST_EQUIVALENCES = 8;
    private static final int MOST_CHANGES = 8;
    private static final int MOST_SIGNS = 50;
    private static final int MOST_BLOCKS = 8;
    private static final int MOST_LEAVES = 4;
    private static final int MOST_LETTERS = 5;
    private static final int MOST_OPEN = 3;
    private static final int MOST_LEAST_POINTS = 30;

    private static final int NONE = -1;
    private static final char NO_LETTER = ' ';

    private static final int NOT_REFUSED = 0;
    private static final int TOO_MANY_CREDITS = 1;
    private static final int NO_PASSED_CREDIT = 2;
    private static final int OUT_OF_RANGE = 3;
    private static final int TOO_MANY_BLOCKS = 4;
    private static final int TOO_FEW_PARTS = 5;

    private static final int GROUP_LAYER = 1;
    private static final int LEAF_LAYER = 2;
    private static final int GRADE_LAYER = 3;
    private static final int AGE_LAYER = 4;
    private static final int ELSEWHERE_LAYER = 5;
    private static final int SPARE_LAYER = 6;

    private final ProgramReader reader;
    private final History history;
    private final BestUse best;
    private final BestUse trial;
    private final Trace trace;
    private Desk desk;
    private Desk snapshot;
    private int fault;
    private int reason;

    public CreditTransfer() {
        reader = new ProgramReader();
        history = new History();
        desk = new Desk(0, new Credit[0], new Equivalence[0], new Program(new Block[0]));
        best = new BestUse(desk);
        trial = new BestUse(desk);
        trace = new Trace();
        snapshot = null;
        fault = NONE;
        reason = NOT_REFUSED;
    }

    public int addCredit(char code, int points, int grade, int year)
            throws IllegalArgumentException, UnsupportedOperationException {
        if (!isInRange(code, points, grade, year)) {
            throw new IllegalArgumentException();
        }
        if (desk.credits.length >= MOST_CREDITS) {
            reason = TOO_MANY_CREDITS;
            throw new UnsupportedOperationException();
        }
        changeTo(desk.withCredit(new Credit(code, points, grade, year)));
        return desk.credits.length - 1;
    }

    public int dropCredit(int credit) throws IndexOutOfBoundsException {
        if (!hasCredit(credit)) {
            throw new IndexOutOfBoundsException();
        }
        changeTo(desk.withoutCredit(credit));
        return desk.credits.length;
    }

    public int credit(int credit, int what) throws IndexOutOfBoundsException, IllegalArgumentException {
        if (!hasCredit(credit)) {
            throw new IndexOutOfBoundsException();
        }
        Credit asked = desk.credits[credit];
        switch (what) {
            case 0:
                return asked.points;
            case 1:
                return asked.grade;
            case 2:
                return asked.year;
            case 3:
                return bestUse().takerOf(credit);
            case 4:
                return desk.acceptingSet(asked);
            default:
                throw new IllegalArgumentException();
        }
    }

    public char code(int credit) throws IndexOutOfBoundsException {
        if (!hasCredit(credit)) {
            throw new IndexOutOfBoundsException();
        }
        return desk.credits[credit].code;
    }

    public int expires(int credit, int block) throws IndexOutOfBoundsException, IllegalStateException {
        if (!hasCredit(credit) || !hasBlock(block)) {
            throw new IndexOutOfBoundsException();
        }
        Block asked = desk.program.blocks[block];
        if (asked.isGroup()) {
            throw new IllegalStateException();
        }
        return Math.min(LAST_YEAR, asked.lastYearFor(desk.credits[credit]));
    }

    public int addEquivalence(char from, char second, char to, char other)
            throws IllegalArgumentException, IllegalStateException {
        if (!areForeignLetters(from, second) || !areOwnLetters(to, other)) {
            throw new IllegalArgumentException();
        }
        if (desk.equivalences.length >= MOST_EQUIVALENCES) {
            throw new IllegalStateException();
        }
        changeTo(desk.withEquivalence(new Equivalence(from, second, to, other)));
        return desk.equivalences.length - 1;
    }

    public char equivalent(int equivalence, int what)
            throws IndexOutOfBoundsException, IllegalArgumentException {
        if (!hasEquivalence(equivalence)) {
            throw new IndexOutOfBoundsException();
        }
        Equivalence asked = desk.equivalences[equivalence];
        switch (what) {
            case 0:
                return asked.from;
            case 1:
                return asked.second;
            case 2:
                return asked.to;
            case 3:
                return asked.other;
            default:
                throw new IllegalArgumentException();
        }
    }

    public int apply(int equivalence) throws IndexOutOfBoundsException, UnsupportedOperationException {
        if (!hasEquivalence(equivalence)) {
            throw new IndexOutOfBoundsException();
        }
        Equivalence applied = desk.equivalences[equivalence];
        int refused = desk.reasonAgainst(applied);
        if (refused != NOT_REFUSED) {
            reason = refused;
            throw new UnsupportedOperationException();
        }
        changeTo(desk.after(applied));
        return applied.comingCount();
    }

    public int rootsBy(int equivalence) throws IndexOutOfBoundsException, NoSuchElementException {
        if (!hasEquivalence(equivalence)) {
            throw new IndexOutOfBoundsException();
        }
        int roots = rootsAfter(desk.equivalences[equivalence]);
        if (roots == NONE) {
            throw new NoSuchElementException();
        }
        return roots;
    }

    public int bestEquivalence() throws NoSuchElementException {
        int bestOne = NONE;
        int mostRoots = NONE;
        for (int i = 0; i < desk.equivalences.length; i++) {
            int roots = rootsAfter(desk.equivalences[i]);
            if (roots > mostRoots) {
                mostRoots = roots;
                bestOne = i;
            }
        }
        if (bestOne == NONE) {
            throw new NoSuchElementException();
        }
        return bestOne;
    }

    public void append(char c) throws IllegalStateException {
        if (reader.isFull()) {
            throw new IllegalStateException();
        }
        reader.put(c);
    }

    public int readProgram() throws IllegalArgumentException, UnsupportedOperationException {
        fault = reader.readText();
        if (fault != NONE) {
            throw new IllegalArgumentException();
        }
        Block[] blocks = reader.blocksRead();
        int refused = Program.reasonAgainst(blocks);
        if (refused != NOT_REFUSED) {
            reason = refused;
            throw new UnsupportedOperationException();
        }
        changeTo(desk.withProgram(new Program(blocks)));
        return blocks.length;
    }

    public int faultPosition() {
        return fault;
    }

    public int refusal() throws NoSuchElementException {
        if (reason == NOT_REFUSED) {
            throw new NoSuchElementException();
        }
        return reason;
    }

    public int block(int block, int what) throws IndexOutOfBoundsException, IllegalArgumentException {
        if (!hasBlock(block)) {
            throw new IndexOutOfBoundsException();
        }
        Block asked = desk.program.blocks[block];
        switch (what) {
            case 0:
                return asked.isGroup() ? 1 : 0;
            case 1:
                return asked.parent;
            case 2:
                return desk.program.partCount(block);
            case 3:
                return asked.need;
            case 4:
                return asked.term;
            case 5:
                return asked.leastGrade;
            case 6:
                return asked.letters.length();
            case 7:
                return asked.openBefore;
            default:
                throw new IllegalArgumentException();
        }
    }

    public int part(int block, int index) throws IndexOutOfBoundsException, NoSuchElementException {
        if (!hasBlock(block)) {
            throw new IndexOutOfBoundsException();
        }
        int found = desk.program.partOf(block, index);
        if (found == NONE) {
            throw new NoSuchElementException();
        }
        return found;
    }

    public char letter(int block, int index) throws IndexOutOfBoundsException, NoSuchElementException {
        if (!hasBlock(block)) {
            throw new IndexOutOfBoundsException();
        }
        String letters = desk.program.blocks[block].letters;
        if (index < 0 || index >= letters.length()) {
            throw new NoSuchElementException();
        }
        return letters.charAt(index);
    }

    public boolean accepts(int block, int credit) throws IndexOutOfBoundsException {
        if (!hasBlock(block) || !hasCredit(credit)) {
            throw new IndexOutOfBoundsException();
        }
        return desk.program.blocks[block].takes(desk.credits[credit], desk.year);
    }

    public boolean isMet(int block) throws IndexOutOfBoundsException {
        if (!hasBlock(block)) {
            throw new IndexOutOfBoundsException();
        }
        return bestUse().meets(block);
    }

    public int points(int block) throws IndexOutOfBoundsException {
        if (!hasBlock(block)) {
            throw new IndexOutOfBoundsException();
        }
        return bestUse().pointsWithin(block);
    }

    public int lacks(int block) throws IndexOutOfBoundsException, IllegalStateException {
        if (!hasBlock(block)) {
            throw new IndexOutOfBoundsException();
        }
        Block asked = desk.program.blocks[block];
        if (asked.isGroup()) {
            throw new IllegalStateException();
        }
        return Math.max(0, asked.need - bestUse().pointsWithin(block));
    }

    public boolean isComplete() {
        int roots = desk.program.rootCount();
        return roots > 0 && bestUse().rootsMet() == roots;
    }

    public int rootsWith(char code, int points, int grade, int year)
            throws IllegalArgumentException, IllegalStateException {
        if (!isInRange(code, points, grade, year)) {
            throw new IllegalArgumentException();
        }
        if (desk.credits.length >= MOST_CREDITS) {
            throw new IllegalStateException();
        }
        return rootsIn(desk.withCredit(new Credit(code, points, grade, year)));
    }

    public int lapses() throws NoSuchElementException {
        int rootsNow = bestUse().rootsMet();
        for (int later = desk.year + 1; later <= LAST_YEAR; later++) {
            // The search is the dear part, and only an acceptance that ends can change what it finds.
            if (desk.hasLastYear(later - 1) && rootsIn(desk.inYear(later)) < rootsNow) {
                return later;
            }
        }
        throw new NoSuchElementException();
    }

    public int layers(int block) throws IndexOutOfBoundsException {
        if (!hasBlock(block)) {
            throw new IndexOutOfBoundsException();
        }
        trace.follow(desk, bestUse(), block);
        return trace.count;
    }

    public int why(int block, int layer, int what)
            throws IndexOutOfBoundsException, NoSuchElementException, IllegalArgumentException {
        if (!hasBlock(block)) {
            throw new IndexOutOfBoundsException();
        }
        trace.follow(desk, bestUse(), block);
        if (layer < 0 || layer >= trace.count) {
            throw new NoSuchElementException();
        }
        if (what != 0 && what != 1) {
            throw new IllegalArgumentException();
        }
        return what == 0 ? trace.kinds[layer] : trace.numbers[layer];
    }

    public int pass(int years) throws IllegalArgumentException {
        if (years < 0 || years > LAST_YEAR - desk.year) {
            throw new IllegalArgumentException();
        }
        changeTo(desk.inYear(desk.year + years));
        return desk.year;
    }

    public int year() {
        return desk.year;
    }

    public int account(int what) throws IllegalArgumentException {
        switch (what) {
            case 0:
                return desk.credits.length;
            case 1:
                return desk.equivalences.length;
            case 2:
                return desk.program.blocks.length;
            case 3:
                return desk.program.leaves.length;
            case 4:
                return desk.program.rootCount();
            case 5:
                return bestUse().rootsMet();
            case 6:
                return bestUse().leavesMet();
            case 7:
                return bestUse().pointsGiven();
            case 8:
                return desk.pointsOfAll();
            case 9:
                return bestUse().creditsLeft();
            default:
                throw new IllegalArgumentException();
        }
    }

    public double meanGrade() throws ArithmeticException {
        int points = bestUse().pointsGiven();
        if (points <= 0) {
            throw new ArithmeticException();
        }
        return (double) bestUse().weightedGrades() / (double) points;
    }

    public int undo() throws IllegalStateException {
        Desk before = history.takeLatest();
        if (before == null) {
            throw new IllegalStateException();
        }
        desk = before;
        return history.count;
    }

    public void save() {
        snapshot = desk;
    }

    public void restore() throws IllegalStateException {
        if (snapshot == null) {
            throw new IllegalStateException();
        }
        desk = snapshot;
        history.forgetAll();
    }

    private void changeTo(Desk next) {
        history.keep(desk);
        desk = next;
    }

    private boolean hasCredit(int credit) {
        return credit >= 0 && credit < desk.credits.length;
    }

    private boolean hasEquivalence(int equivalence) {
        return equivalence >= 0 && equivalence < desk.equivalences.length;
    }

    private boolean hasBlock(int block) {
        return block >= 0 && block < desk.program.blocks.length;
    }

    private boolean isInRange(char code, int points, int grade, int year) {
        return (isForeignLetter(code) || isOwnLetter(code))
                && points >= 1 && points <= MOST_POINTS
                && grade >= 0 && grade <= BEST_GRADE
                && year >= 0 && year <= desk.year;
    }

    private BestUse bestUse() {
        best.findFor(desk);
        return best;
    }

    private int rootsIn(Desk other) {
        trial.findFor(other);
        return trial.rootsMet();
    }

    /** NONE where the equivalence would be refused. */
    private int rootsAfter(Equivalence tried) {
        if (desk.reasonAgainst(tried) != NOT_REFUSED) {
            return NONE;
        }
        return rootsIn(desk.after(tried));
    }

    private static boolean isForeignLetter(char c) {
        return c >= 'A' && c <= 'Z';
    }

    private static boolean isOwnLetter(char c) {
        return c >= 'a' && c <= 'z';
    }

    private static boolean areForeignLetters(char first, char second) {
        return isForeignLetter(first) && (second == NO_LETTER || isForeignLetter(second)) && first != second;
    }

    private static boolean areOwnLetters(char first, char second) {
        return isOwnLetter(first) && (second == NO_LETTER || isOwnLetter(second)) && first != second;
    }

    private static boolean isInSet(int set, int number) {
        return (set >> number & 1) == 1;
    }

    private static final class Credit {
        final char code;
        final int points;
        final int grade;
        final int year;

        Credit(char code, int points, int grade, int year) {
            this.code = code;
            this.points = points;
            this.grade = grade;
            this.year = year;
        }
    }

    private static final class Equivalence {
        final char from;
        final char second;
        final char to;
        final char other;

        Equivalence(char from, char second, char to, char other) {
            this.from = from;
            this.second = second;
            this.to = to;
            this.other = other;
        }

        int goingCount() {
            return second == NO_LETTER ? 1 : 2;
        }

        int comingCount() {
            return other == NO_LETTER ? 1 : 2;
        }
    }

    /** A leaf, or a group, which has no letters, and for term and least grade NONE. */
    private static final class Block {
        final String letters;
        final int parent;
        final int openBefore;
        final int need;
        final int term;
        final int leastGrade;

        Block(String letters, int parent, int openBefore, int need, int term, int leastGrade) {
            this.letters = letters;
            this.parent = parent;
            this.openBefore = openBefore;
            this.need = need;
            this.term = term;
            this.leastGrade = leastGrade;
        }

        boolean isGroup() {
            return letters.isEmpty();
        }

        boolean names(Credit credit) {
            return letters.indexOf(credit.code) >= 0;
        }

        int lastYearFor(Credit credit) {
            return credit.year + term;
        }

        boolean takes(Credit credit, int year) {
            return names(credit) && credit.grade >= leastGrade && year <= lastYearFor(credit);
        }

        boolean isInRange() {
            return isGroup()
                    || need >= 1 && need <= MOST_LEAST_POINTS
                    && term >= 0 && term <= LAST_YEAR
                    && leastGrade >= PASSING_GRADE && leastGrade <= BEST_GRADE;
        }
    }

    /** The blocks of a text that was not refused; never changed, so that desks share it. */
    private static final class Program {
        final Block[] blocks;
        final int[] leaves;
        private final int rootSet;
        /** By the set of met leaves, bit i for leaves[i]: the set of met blocks, bit b for block b. */
        private final int[] metSets;
        /** By the set of met leaves: the number of met roots. */
        private final int[] metRoots;

        Program(Block[] blocks) {
            this.blocks = blocks;
            leaves = leavesOf(blocks);
            rootSet = rootSetOf(blocks);
            metSets = new int[1 << Math.min(leaves.length, MOST_LEAVES)];
            metRoots = new int[metSets.length];
            for (int set = 0; set < metSets.length; set++) {
                metSets[set] = metBlocks(blocks, leaves, set);
                metRoots[set] = Integer.bitCount(metSets[set] & rootSet);
            }
        }

        /** The reason for which blocks are no program. */
        static int reasonAgainst(Block[] blocks) {
            for (int b = 0; b < blocks.length; b++) {
                if (!blocks[b].isInRange()) {
                    return OUT_OF_RANGE;
                }
            }
            if (blocks.length > MOST_BLOCKS || leavesOf(blocks).length > MOST_LEAVES) {
                return TOO_MANY_BLOCKS;
            }
            for (int b = 0; b < blocks.length; b++) {
                if (blocks[b].isGroup() && blocks[b].need > partsIn(blocks, b)) {
                    return TOO_FEW_PARTS;
                }
            }
            return NOT_REFUSED;
        }

        int partCount(int block) {
            return partsIn(blocks, block);
        }

        /** The part with this index, or NONE. */
        int partOf(int block, int index) {
            int before = 0;
            for (int b = 0; b < blocks.length; b++) {
                if (blocks[b].parent == block) {
                    if (before == index) {
                        return b;
                    }
                    before++;
                }
            }
            return NONE;
        }

        boolean isWithin(int inner, int outer) {
            int at = inner;
            for (int step = 0; step <= MOST_OPEN && at >= 0 && at < blocks.length; step++) {
                if (at == outer) {
                    return true;
                }
                at = blocks[at].parent;
            }
            return false;
        }

        int rootCount() {
            return Integer.bitCount(rootSet);
        }

        int metSetFor(int leafSet) {
            return leafSet >= 0 && leafSet < metSets.length ? metSets[leafSet] : 0;
        }

        int metRootsFor(int leafSet) {
            return leafSet >= 0 && leafSet < metRoots.length ? metRoots[leafSet] : 0;
        }

        private static int partsIn(Block[] blocks, int block) {
            int parts = 0;
            for (int b = 0; b < blocks.length; b++) {
                if (blocks[b].parent == block) {
                    parts++;
                }
            }
            return parts;
        }

        private static int[] leavesOf(Block[] blocks) {
            int count = 0;
            for (int b = 0; b < blocks.length; b++) {
                if (!blocks[b].isGroup()) {
                    count++;
                }
            }
            int[] leaves = new int[count];
            int next = 0;
            for (int b = 0; b < blocks.length && next < leaves.length; b++) {
                if (!blocks[b].isGroup()) {
                    leaves[next] = b;
                    next++;
                }
            }
            return leaves;
        }

        private static int rootSetOf(Block[] blocks) {
            int set = 0;
            for (int b = 0; b < blocks.length; b++) {
                if (blocks[b].parent == NONE) {
                    set |= 1 << b;
                }
            }
            return set;
        }

        private static int metBlocks(Block[] blocks, int[] leaves, int leafSet) {
            int met = 0;
            for (int leaf = 0; leaf < leaves.length; leaf++) {
                if (isInSet(leafSet, leaf)) {
                    met |= 1 << leaves[leaf];
                }
            }
            // Parts begin behind their group: from the last block on, they are known before it is.
            for (int b = blocks.length - 1; b >= 0; b--) {
                if (blocks[b].isGroup() && metParts(blocks, b, met) >= blocks[b].need) {
                    met |= 1 << b;
                }
            }
            return met;
        }

        static int metParts(Block[] blocks, int group, int met) {
            int parts = 0;
            for (int b = 0; b < blocks.length; b++) {
                if (blocks[b].parent == group && isInSet(met, b)) {
                    parts++;
                }
            }
            return parts;
        }
    }

    /** All that a change can change. It is never changed itself, so that to keep it is to keep a reference. */
    private static final class Desk {
        final int year;
        final Credit[] credits;
        final Equivalence[] equivalences;
        final Program program;

        Desk(int year, Credit[] credits, Equivalence[] equivalences, Program program) {
            this.year = year;
            this.credits = credits;
            this.equivalences = equivalences;
            this.program = program;
        }

        Desk withCredit(Credit added) {
            Credit[] next = new Credit[credits.length + 1];
            for (int i = 0; i < credits.length; i++) {
                next[i] = credits[i];
            }
            next[credits.length] = added;
            return new Desk(year, next, equivalences, program);
        }

        /** The same desk if there is no such credit. */
        Desk withoutCredit(int dropped) {
            if (dropped < 0 || dropped >= credits.length) {
                return this;
            }
            Credit[] next = new Credit[credits.length - 1];
            for (int i = 0; i < next.length; i++) {
                next[i] = credits[i < dropped ? i : i + 1];
            }
            return new Desk(year, next, equivalences, program);
        }

        Desk withEquivalence(Equivalence added) {
            Equivalence[] next = new Equivalence[equivalences.length + 1];
            for (int i = 0; i < equivalences.length; i++) {
                next[i] = equivalences[i];
            }
            next[equivalences.length] = added;
            return new Desk(year, credits, next, program);
        }

        Desk withProgram(Program read) {
            return new Desk(year, credits, equivalences, read);
        }

        Desk inYear(int other) {
            return new Desk(other, credits, equivalences, program);
        }

        int reasonAgainst(Equivalence applied) {
            if (Integer.bitCount(goingSet(applied)) < applied.goingCount()) {
                return NO_PASSED_CREDIT;
            }
            if (credits.length - applied.goingCount() + applied.comingCount() > MOST_CREDITS) {
                return TOO_MANY_CREDITS;
            }
            return NOT_REFUSED;
        }

        Desk after(Equivalence applied) {
            int going = goingSet(applied);
            Desk next = this;
            int points = 0;
            int grade = BEST_GRADE;
            int earliest = year;
            // From the last one on, so that the numbers of those still to go stay as they are.
            for (int i = credits.length - 1; i >= 0; i--) {
                if (isInSet(going, i)) {
                    points += credits[i].points;
                    grade = Math.min(grade, credits[i].grade);
                    earliest = Math.min(earliest, credits[i].year);
                    next = next.withoutCredit(i);
                }
            }
            int share = applied.comingCount() == 1 ? 0 : points / 2;
            next = next.withCredit(new Credit(applied.to, points - share, grade, earliest));
            if (applied.comingCount() == 1) {
                return next;
            }
            return next.withCredit(new Credit(applied.other, share, grade, earliest));
        }

        int acceptingSet(Credit credit) {
            int set = 0;
            for (int b = 0; b < program.blocks.length; b++) {
                if (program.blocks[b].takes(credit, year)) {
                    set |= 1 << b;
                }
            }
            return set;
        }

        boolean hasLastYear(int last) {
            for (int i = 0; i < credits.length; i++) {
                for (int b = 0; b < program.blocks.length; b++) {
                    if (program.blocks[b].names(credits[i]) && program.blocks[b].lastYearFor(credits[i]) == last) {
                        return true;
                    }
                }
            }
            return false;
        }

        int pointsOfAll() {
            int sum = 0;
            for (int i = 0; i < credits.length; i++) {
                sum += credits[i].points;
            }
            return sum;
        }

        private int goingSet(Equivalence applied) {
            return singleton(takenFor(applied.from)) | singleton(takenFor(applied.second));
        }

        /** The credit that an equivalence takes for a letter, or NONE; no credit has a space for its code. */
        private int takenFor(char code) {
            int taken = NONE;
            int most = NONE;
            for (int i = 0; i < credits.length; i++) {
                Credit credit = credits[i];
                if (credit.code == code && credit.grade >= PASSING_GRADE && credit.points > most) {
                    taken = i;
                    most = credit.points;
                }
            }
            return taken;
        }

        private static int singleton(int number) {
            return number == NONE ? 0 : 1 << number;
        }
    }

    /** The desks before the latest changes, the oldest one first. */
    private static final class History {
        private final Desk[] kept = new Desk[MOST_CHANGES];
        int count = 0;

        void keep(Desk before) {
            if (count >= kept.length) {
                for (int i = 1; i < kept.length; i++) {
                    kept[i - 1] = kept[i];
                }
                count = kept.length - 1;
            }
            kept[count] = before;
            count++;
        }

        /** Null where no change is kept. */
        Desk takeLatest() {
            if (count <= 0) {
                return null;
            }
            count--;
            return kept[count];
        }

        void forgetAll() {
            count = 0;
        }
    }

    /** Finds the best use of a desk, and tells of the one found last. */
    private static final class BestUse {
        /** Less than any use is worth. */
        private static final int NOTHING_FOUND = -1000;

        private Desk desk;
        private int creditCount = 0;
        private int leafCount = 0;
        /** By credit: the set of leaves that accept it, bit i for leaf i of the program's leaves. */
        private final int[] accepting = new int[MOST_CREDITS];
        private final int[] tried = new int[MOST_CREDITS];
        private final int[] got = new int[MOST_LEAVES];
        private final int[] chosen = new int[MOST_CREDITS];
        private int worth = 0;
        private int leafSet = 0;
        private int given = 0;

        /** An empty desk has one use alone, that of the values above. */
        BestUse(Desk empty) {
            desk = empty;
        }

        void findFor(Desk asked) {
            // Desks never change: what was found for this one still holds.
            if (desk == asked) {
                return;
            }
            desk = asked;
            creditCount = Math.min(desk.credits.length, MOST_CREDITS);
            leafCount = Math.min(desk.program.leaves.length, MOST_LEAVES);
            for (int credit = 0; credit < creditCount; credit++) {
                accepting[credit] = leavesFor(desk.credits[credit]);
            }
            for (int leaf = 0; leaf < leafCount; leaf++) {
                got[leaf] = 0;
            }
            worth = NOTHING_FOUND;
            giveFrom(this, 0);
        }

        /** The block of the leaf that gets a credit, or NONE. */
        int takerOf(int credit) {
            if (credit < 0 || credit >= creditCount) {
                return NONE;
            }
            int leaf = chosen[credit];
            return leaf >= 0 && leaf < leafCount ? desk.program.leaves[leaf] : NONE;
        }

        boolean meets(int block) {
            return isInSet(metSet(), block);
        }

        int metSet() {
            return desk.program.metSetFor(leafSet);
        }

        int pointsWithin(int block) {
            int sum = 0;
            for (int credit = 0; credit < creditCount; credit++) {
                if (desk.program.isWithin(takerOf(credit), block)) {
                    sum += desk.credits[credit].points;
                }
            }
            return sum;
        }

        int rootsMet() {
            return desk.program.metRootsFor(leafSet);
        }

        int leavesMet() {
            return Integer.bitCount(leafSet);
        }

        int pointsGiven() {
            return given;
        }

        int creditsLeft() {
            int left = 0;
            for (int credit = 0; credit < creditCount; credit++) {
                if (takerOf(credit) == NONE) {
                    left++;
                }
            }
            return left;
        }

        int weightedGrades() {
            int sum = 0;
            for (int credit = 0; credit < creditCount; credit++) {
                if (takerOf(credit) != NONE) {
                    sum += desk.credits[credit].grade * desk.credits[credit].points;
                }
            }
            return sum;
        }

        private int leavesFor(Credit credit) {
            int set = 0;
            for (int leaf = 0; leaf < leafCount; leaf++) {
                if (desk.program.blocks[desk.program.leaves[leaf]].takes(credit, desk.year)) {
                    set |= 1 << leaf;
                }
            }
            return set;
        }

        /** Tries the uses in the order in which the first of equal ones is the best; one level a credit. */
        private static void giveFrom(BestUse use, int credit) {
            if (credit < 0 || credit >= use.creditCount) {
                use.weigh();
                return;
            }
            int points = use.desk.credits[credit].points;
            for (int leaf = 0; leaf < use.leafCount; leaf++) {
                if (isInSet(use.accepting[credit], leaf)) {
                    use.tried[credit] = leaf;
                    use.got[leaf] += points;
                    giveFrom(use, credit + 1);
                    use.got[leaf] -= points;
                }
            }
            use.tried[credit] = NONE;
            giveFrom(use, credit + 1);
        }

        private void weigh() {
            int met = 0;
            int sum = 0;
            for (int leaf = 0; leaf < leafCount; leaf++) {
                sum += got[leaf];
                if (got[leaf] >= desk.program.blocks[desk.program.leaves[leaf]].need) {
                    met |= 1 << leaf;
                }
            }
            // One number compares roots, then leaves, then points: there are at most 4 leaves,
            // and 6 credits of 24 points stay far below 1000.
            int roots = desk.program.metRootsFor(met);
            int found = (roots * 10 + Integer.bitCount(met)) * 1000 - sum;
            if (found > worth) {
                worth = found;
                leafSet = met;
                given = sum;
                for (int credit = 0; credit < creditCount; credit++) {
                    chosen[credit] = tried[credit];
                }
            }
        }
    }

    /** The layers that tell why a block is not met, those of the latest block asked for. */
    private static final class Trace {
        /** As many groups as brackets can be open, a leaf, and a credit. */
        private static final int MOST_LAYERS = MOST_OPEN + 2;

        final int[] kinds = new int[MOST_LAYERS];
        final int[] numbers = new int[MOST_LAYERS];
        int count = 0;

        void follow(Desk desk, BestUse use, int block) {
            Block[] blocks = desk.program.blocks;
            count = 0;
            int at = block;
            for (int step = 0; step < MOST_LAYERS && at >= 0 && at < blocks.length; step++) {
                if (use.meets(at)) {
                    return;
                }
                if (!blocks[at].isGroup()) {
                    addLeaf(desk, use, at);
                    return;
                }
                add(GROUP_LAYER, Program.metParts(blocks, at, use.metSet()));
                at = firstUnmetPart(blocks, use, at);
            }
        }

        private void addLeaf(Desk desk, BestUse use, int leaf) {
            if (leaf < 0 || leaf >= desk.program.blocks.length) {
                return;
            }
            Block missed = desk.program.blocks[leaf];
            add(LEAF_LAYER, missed.need - use.pointsWithin(leaf));
            for (int i = 0; i < desk.credits.length; i++) {
                if (missed.names(desk.credits[i]) && use.takerOf(i) != leaf) {
                    add(kindOf(missed, desk.credits[i], desk.year, use.takerOf(i)), i);
                    return;
                }
            }
        }

        private void add(int kind, int number) {
            if (count < MOST_LAYERS) {
                kinds[count] = kind;
                numbers[count] = number;
                count++;
            }
        }

        private static int kindOf(Block leaf, Credit credit, int year, int taker) {
            if (credit.grade < leaf.leastGrade) {
                return GRADE_LAYER;
            }
            if (year > leaf.lastYearFor(credit)) {
                return AGE_LAYER;
            }
            return taker == NONE ? SPARE_LAYER : ELSEWHERE_LAYER;
        }

        private static int firstUnmetPart(Block[] blocks, BestUse use, int group) {
            for (int b = 0; b < blocks.length; b++) {
                if (blocks[b].parent == group && !use.meets(b)) {
                    return b;
                }
            }
            return NONE;
        }
    }

    /** The text buffer, and the reading of it as a text of a program. */
    private static final class ProgramReader {
        private static final int DEFAULT_TERM = 60;
        private static final int DEFAULT_GRADE = 10;
        /** Stands for the end of the text; no text goes on with it. */
        private static final char NO_SIGN = 0;

        private final char[] signs = new char[MOST_SIGNS];
        private int length = 0;
        private int at = 0;
        private final StringBuilder letters = new StringBuilder();
        private final Block[] blocks = new Block[MOST_SIGNS];
        private int count = 0;
        private final int[] openGroups = new int[MOST_OPEN];
        private int open = 0;

        boolean isFull() {
            return length >= signs.length;
        }

        void put(char c) {
            if (length < signs.length) {
                signs[length] = c;
                length++;
            }
        }

        /** Empties the buffer. The answer is the fault position, or NONE. */
        int readText() {
            at = 0;
            count = 0;
            open = 0;
            boolean isGood = readBlocks();
            length = 0;
            // All signs before this one were taken, and it could not be.
            return isGood ? NONE : at;
        }

        Block[] blocksRead() {
            Block[] all = new Block[count];
            for (int b = 0; b < all.length && b < blocks.length; b++) {
                all[b] = blocks[b];
            }
            return all;
        }

        /** Between two leaves, brackets close, a comma stands if one is still open, and brackets open. */
        private boolean readBlocks() {
            for (int leaf = 0; leaf < MOST_SIGNS; leaf++) {
                if (!readOpenings() || !readLeaf()) {
                    return false;
                }
                readClosings();
                if (open == 0 && at >= length) {
                    return true;
                }
                if (open > 0 && !take(',')) {
                    return false;
                }
            }
            return false;
        }

        private boolean readOpenings() {
            for (int i = 0; i <= MOST_OPEN && sign() == '['; i++) {
                if (open >= openGroups.length) {
                    return false;
                }
                at++;
                char digit = sign();
                if (digit < '1' || digit > '9') {
                    return false;
                }
                at++;
                if (!take(':')) {
                    return false;
                }
                int group = count;
                addBlock("", digit - '0', NONE, NONE);
                openGroups[open] = group;
                open++;
            }
            return true;
        }

        private void readClosings() {
            for (int i = 0; i < MOST_OPEN && open > 0 && sign() == ']'; i++) {
                at++;
                open--;
            }
        }

        private boolean readLeaf() {
            String own = readLetters();
            if (own.isEmpty()) {
                return false;
            }
            int leastPoints = readNumber();
            if (leastPoints == NONE) {
                return false;
            }
            int term = take('<') ? readNumber() : DEFAULT_TERM;
            if (term == NONE) {
                return false;
            }
            int leastGrade = take('>') ? readNumber() : DEFAULT_GRADE;
            if (leastGrade == NONE) {
                return false;
            }
            addBlock(own, leastPoints, term, leastGrade);
            return true;
        }

        /** Stops at a letter that is one too many, where the digit that is due is then missed. */
        private String readLetters() {
            letters.setLength(0);
            for (int i = 0; i < MOST_LETTERS && isOwnLetter(sign()) && !isTaken(sign()); i++) {
                letters.append(sign());
                at++;
            }
            return letters.toString();
        }

        private boolean isTaken(char letter) {
            for (int i = 0; i < letters.length(); i++) {
                if (letters.charAt(i) == letter) {
                    return true;
                }
            }
            return false;
        }

        /** NONE where no number begins. */
        private int readNumber() {
            char first = sign();
            if (!isDigit(first)) {
                return NONE;
            }
            at++;
            char second = sign();
            if (first == '0' || !isDigit(second)) {
                return first - '0';
            }
            at++;
            return (first - '0') * 10 + (second - '0');
        }

        private boolean take(char due) {
            if (sign() != due) {
                return false;
            }
            at++;
            return true;
        }

        private char sign() {
            return at >= 0 && at < length && at < signs.length ? signs[at] : NO_SIGN;
        }

        private void addBlock(String own, int need, int term, int leastGrade) {
            if (count < blocks.length) {
                blocks[count] = new Block(own, innermostGroup(), open, need, term, leastGrade);
                count++;
            }
        }

        private int innermostGroup() {
            return open > 0 && open <= openGroups.length ? openGroups[open - 1] : NONE;
        }

        private static boolean isDigit(char c) {
            return c >= '0' && c <= '9';
        }
    }
}
