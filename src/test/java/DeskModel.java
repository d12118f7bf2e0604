import java.util.ArrayDeque;
import java.util.ArrayList;
import java.util.Collections;
import java.util.Comparator;
import java.util.Deque;
import java.util.HashSet;
import java.util.List;
import java.util.NoSuchElementException;
import java.util.Set;
import java.util.stream.Collectors;

/** The document a second time, in its plainest words, to compare long runs of calls with. */
final class DeskModel {
    record Credit(char code, int points, int grade, int year) {
    }

    record State(int year, List<Credit> credits, List<String> equivalences, List<TextModel.Node> blocks) {
    }

    /** For each credit the leaf that gets it, by its block, with 99 for none. */
    record Use(List<Integer> takers, int roots, int leaves, int points, Set<Integer> met) {
    }

    private static final int NOBODY = 99;
    private static final Comparator<Use> BETTER_FIRST = Comparator
            .comparing((Use u) -> -u.roots())
            .thenComparing(u -> -u.leaves())
            .thenComparing(Use::points)
            .thenComparing(u -> u.takers().stream().map(t -> String.format("%02d", t)).collect(Collectors.joining()));

    private State state = new State(0, List.of(), List.of(), List.of());
    private State saved = null;
    private final Deque<State> changes = new ArrayDeque<>();
    private final StringBuilder text = new StringBuilder();
    private int fault = -1;
    private int reason = 0;
    private State usedState = null;
    private Use use = null;

    private void change(State next) {
        changes.addLast(state);
        if (changes.size() > 8) {
            changes.removeFirst();
        }
        state = next;
    }

    private static <T> List<T> plus(List<T> list, T one) {
        List<T> longer = new ArrayList<>(list);
        longer.add(one);
        return longer;
    }

    private State withCredits(List<Credit> credits) {
        return new State(state.year, credits, state.equivalences, state.blocks);
    }

    private void needIndex(int index, List<?> list) {
        if (index < 0 || index >= list.size()) {
            throw new IndexOutOfBoundsException();
        }
    }

    private static boolean accepts(State s, TextModel.Node n, Credit c) {
        return n.isLeaf() && n.letters.contains("" + c.code) && c.grade >= n.grade && s.year - c.year <= n.term;
    }

    private static Use bestUse(State s) {
        List<List<Integer>> uses = new ArrayList<>();
        uses.add(List.of());
        for (Credit c : s.credits) {
            List<List<Integer>> longer = new ArrayList<>();
            for (List<Integer> begun : uses) {
                longer.add(plus(begun, NOBODY));
                s.blocks.stream().filter(n -> accepts(s, n, c)).forEach(n -> longer.add(plus(begun, n.number)));
            }
            uses = longer;
        }
        return uses.stream().map(takers -> weighed(s, takers)).min(BETTER_FIRST).get();
    }

    private static Use weighed(State s, List<Integer> takers) {
        Set<Integer> met = new HashSet<>();
        int sum = 0;
        for (TextModel.Node n : s.blocks) {
            if (n.isLeaf()) {
                int got = pointsOf(s, takers, n);
                sum += got;
                if (got >= n.need) {
                    met.add(n.number);
                }
            }
        }
        int leaves = met.size();
        for (TextModel.Node n : s.blocks) {
            if (isMet(n, met)) {
                met.add(n.number);
            }
        }
        int roots = (int) s.blocks.stream().filter(n -> n.parent == null && met.contains(n.number)).count();
        return new Use(takers, roots, leaves, sum, met);
    }

    private static boolean isMet(TextModel.Node n, Set<Integer> metLeaves) {
        return n.isLeaf() ? metLeaves.contains(n.number)
                : n.parts.stream().filter(p -> isMet(p, metLeaves)).count() >= n.need;
    }

    private static int pointsOf(State s, List<Integer> takers, TextModel.Node block) {
        int sum = 0;
        for (int i = 0; i < takers.size(); i++) {
            if (takers.get(i) != NOBODY && block.isOver(s.blocks.get(takers.get(i)))) {
                sum += s.credits.get(i).points;
            }
        }
        return sum;
    }

    private Use use() {
        if (usedState != state) {
            usedState = state;
            use = bestUse(state);
        }
        return use;
    }

    private void needCredit(char code, int points, int grade, int year) {
        boolean isLetter = "ABCDEFGHIJKLMNOPQRSTUVWXYZabcdefghijklmnopqrstuvwxyz".indexOf(code) >= 0;
        if (!isLetter || points < 1 || points > 12 || grade < 0 || grade > 20 || year < 0 || year > state.year) {
            throw new IllegalArgumentException();
        }
    }

    int addCredit(char code, int points, int grade, int year) {
        needCredit(code, points, grade, year);
        if (state.credits.size() == 6) {
            reason = 1;
            throw new UnsupportedOperationException();
        }
        change(withCredits(plus(state.credits, new Credit(code, points, grade, year))));
        return state.credits.size() - 1;
    }

    int dropCredit(int credit) {
        needIndex(credit, state.credits);
        List<Credit> rest = new ArrayList<>(state.credits);
        rest.remove(credit);
        change(withCredits(rest));
        return rest.size();
    }

    int credit(int credit, int what) {
        needIndex(credit, state.credits);
        Credit c = state.credits.get(credit);
        switch (what) {
            case 0: return c.points;
            case 1: return c.grade;
            case 2: return c.year;
            case 3: return use().takers.get(credit) == NOBODY ? -1 : use().takers.get(credit);
            case 4: return state.blocks.stream().filter(n -> accepts(state, n, c)).mapToInt(n -> 1 << n.number).sum();
            default: throw new IllegalArgumentException();
        }
    }

    char code(int credit) {
        needIndex(credit, state.credits);
        return state.credits.get(credit).code;
    }

    int expires(int credit, int block) {
        needIndex(credit, state.credits);
        needIndex(block, state.blocks);
        if (!state.blocks.get(block).isLeaf()) {
            throw new IllegalStateException();
        }
        return Math.min(60, state.credits.get(credit).year + state.blocks.get(block).term);
    }

    int addEquivalence(char from, char second, char to, char other) {
        String all = "" + from + second + to + other;
        if (!all.matches("[A-Z][A-Z ][a-z][a-z ]") || from == second || to == other) {
            throw new IllegalArgumentException();
        }
        if (state.equivalences.size() == 8) {
            throw new IllegalStateException();
        }
        change(new State(state.year, state.credits, plus(state.equivalences, all), state.blocks));
        return state.equivalences.size() - 1;
    }

    char equivalent(int equivalence, int what) {
        needIndex(equivalence, state.equivalences);
        if (what < 0 || what > 3) {
            throw new IllegalArgumentException();
        }
        return state.equivalences.get(equivalence).charAt(what);
    }

    /** The credits after an equivalence, or those of a refused one: a list of its reason alone. */
    private List<?> after(String equivalence) {
        String from = equivalence.substring(0, 2).trim();
        String to = equivalence.substring(2).trim();
        List<Credit> going = new ArrayList<>();
        List<Credit> rest = new ArrayList<>(state.credits);
        for (char letter : from.toCharArray()) {
            int taken = -1;
            for (int i = 0; i < rest.size(); i++) {
                Credit c = rest.get(i);
                if (c.code == letter && c.grade >= 10 && (taken < 0 || c.points > rest.get(taken).points)) {
                    taken = i;
                }
            }
            if (taken < 0) {
                return List.of(2);
            }
            going.add(rest.remove(taken));
        }
        if (rest.size() + to.length() > 6) {
            return List.of(1);
        }
        int points = going.stream().mapToInt(Credit::points).sum();
        int grade = going.stream().mapToInt(Credit::grade).min().getAsInt();
        int year = going.stream().mapToInt(Credit::year).min().getAsInt();
        for (int i = 0; i < to.length(); i++) {
            int share = points / to.length() + (i == 0 ? points % to.length() : 0);
            rest.add(new Credit(to.charAt(i), share, grade, year));
        }
        return rest;
    }

    @SuppressWarnings("unchecked")
    int apply(int equivalence) {
        needIndex(equivalence, state.equivalences);
        List<?> after = after(state.equivalences.get(equivalence));
        if (after.get(0) instanceof Integer why) {
            reason = why;
            throw new UnsupportedOperationException();
        }
        change(withCredits((List<Credit>) after));
        return state.equivalences.get(equivalence).substring(2).trim().length();
    }

    @SuppressWarnings("unchecked")
    int rootsBy(int equivalence) {
        needIndex(equivalence, state.equivalences);
        List<?> after = after(state.equivalences.get(equivalence));
        if (after.get(0) instanceof Integer) {
            throw new NoSuchElementException();
        }
        return bestUse(withCredits((List<Credit>) after)).roots;
    }

    int bestEquivalence() {
        List<Integer> roots = new ArrayList<>();
        for (int i = 0; i < state.equivalences.size(); i++) {
            try {
                roots.add(rootsBy(i));
            } catch (NoSuchElementException e) {
                roots.add(-1);
            }
        }
        if (roots.isEmpty() || Collections.max(roots) < 0) {
            throw new NoSuchElementException();
        }
        return roots.indexOf(Collections.max(roots));
    }

    int append(char c) {
        if (text.length() == 50) {
            throw new IllegalStateException();
        }
        text.append(c);
        return 0;
    }

    int readProgram() {
        String read = text.toString();
        text.setLength(0);
        fault = TextModel.faultOf(read);
        if (fault >= 0) {
            throw new IllegalArgumentException();
        }
        List<TextModel.Node> blocks = TextModel.blocksOf(read);
        if (TextModel.reasonAgainst(blocks) != 0) {
            reason = TextModel.reasonAgainst(blocks);
            throw new UnsupportedOperationException();
        }
        change(new State(state.year, state.credits, state.equivalences, blocks));
        return blocks.size();
    }

    int faultPosition() {
        return fault;
    }

    int refusal() {
        if (reason == 0) {
            throw new NoSuchElementException();
        }
        return reason;
    }

    int block(int block, int what) {
        needIndex(block, state.blocks);
        TextModel.Node n = state.blocks.get(block);
        if (what < 0 || what > 7) {
            throw new IllegalArgumentException();
        }
        return List.of(n.isLeaf() ? 0 : 1, n.parent == null ? -1 : n.parent.number, n.parts.size(), n.need,
                n.term, n.grade, n.letters.length(), n.depth).get(what);
    }

    int part(int block, int index) {
        needIndex(block, state.blocks);
        List<TextModel.Node> parts = state.blocks.get(block).parts;
        if (index < 0 || index >= parts.size()) {
            throw new NoSuchElementException();
        }
        return parts.get(index).number;
    }

    char letter(int block, int index) {
        needIndex(block, state.blocks);
        String letters = state.blocks.get(block).letters;
        if (index < 0 || index >= letters.length()) {
            throw new NoSuchElementException();
        }
        return letters.charAt(index);
    }

    boolean accepts(int block, int credit) {
        needIndex(block, state.blocks);
        needIndex(credit, state.credits);
        return accepts(state, state.blocks.get(block), state.credits.get(credit));
    }

    boolean isMet(int block) {
        needIndex(block, state.blocks);
        return use().met.contains(block);
    }

    int points(int block) {
        needIndex(block, state.blocks);
        return pointsOf(state, use().takers, state.blocks.get(block));
    }

    int lacks(int block) {
        needIndex(block, state.blocks);
        if (!state.blocks.get(block).isLeaf()) {
            throw new IllegalStateException();
        }
        return isMet(block) ? 0 : state.blocks.get(block).need - points(block);
    }

    boolean isComplete() {
        return account(4) > 0 && account(4) == account(5);
    }

    int rootsWith(char code, int points, int grade, int year) {
        needCredit(code, points, grade, year);
        if (state.credits.size() == 6) {
            throw new IllegalStateException();
        }
        return bestUse(withCredits(plus(state.credits, new Credit(code, points, grade, year)))).roots;
    }

    int lapses() {
        for (int y = state.year + 1; y <= 60; y++) {
            if (bestUse(new State(y, state.credits, state.equivalences, state.blocks)).roots < use().roots) {
                return y;
            }
        }
        throw new NoSuchElementException();
    }

    private List<int[]> layersOf(TextModel.Node n) {
        List<int[]> found = new ArrayList<>();
        if (use().met.contains(n.number)) {
            return found;
        }
        if (!n.isLeaf()) {
            int met = (int) n.parts.stream().filter(p -> use().met.contains(p.number)).count();
            found.add(new int[] {1, met});
            found.addAll(layersOf(n.parts.stream().filter(p -> !use().met.contains(p.number)).findFirst().get()));
            return found;
        }
        found.add(new int[] {2, n.need - points(n.number)});
        for (int i = 0; i < state.credits.size(); i++) {
            Credit c = state.credits.get(i);
            if (n.letters.indexOf(c.code) >= 0 && credit(i, 3) != n.number) {
                int kind = c.grade < n.grade ? 3 : state.year - c.year > n.term ? 4 : credit(i, 3) >= 0 ? 5 : 6;
                found.add(new int[] {kind, i});
                break;
            }
        }
        return found;
    }

    int layers(int block) {
        needIndex(block, state.blocks);
        return layersOf(state.blocks.get(block)).size();
    }

    int why(int block, int layer, int what) {
        needIndex(block, state.blocks);
        List<int[]> found = layersOf(state.blocks.get(block));
        if (layer < 0 || layer >= found.size()) {
            throw new NoSuchElementException();
        }
        if (what < 0 || what > 1) {
            throw new IllegalArgumentException();
        }
        return found.get(layer)[what];
    }

    int pass(int years) {
        if (years < 0 || (long) state.year + years > 60) {
            throw new IllegalArgumentException();
        }
        change(new State(state.year + years, state.credits, state.equivalences, state.blocks));
        return state.year;
    }

    int year() {
        return state.year;
    }

    int account(int what) {
        switch (what) {
            case 0: return state.credits.size();
            case 1: return state.equivalences.size();
            case 2: return state.blocks.size();
            case 3: return (int) state.blocks.stream().filter(TextModel.Node::isLeaf).count();
            case 4: return (int) state.blocks.stream().filter(n -> n.parent == null).count();
            case 5: return use().roots;
            case 6: return use().leaves;
            case 7: return use().points;
            case 8: return state.credits.stream().mapToInt(Credit::points).sum();
            case 9: return Collections.frequency(use().takers, NOBODY);
            default: throw new IllegalArgumentException();
        }
    }

    double meanGrade() {
        int weighted = 0;
        int points = 0;
        for (int i = 0; i < state.credits.size(); i++) {
            if (credit(i, 3) >= 0) {
                weighted += state.credits.get(i).grade * state.credits.get(i).points;
                points += state.credits.get(i).points;
            }
        }
        if (points == 0) {
            throw new ArithmeticException();
        }
        return (double) weighted / (double) points;
    }

    int undo() {
        if (changes.isEmpty()) {
            throw new IllegalStateException();
        }
        state = changes.removeLast();
        return changes.size();
    }

    int save() {
        saved = state;
        return 0;
    }

    int restore() {
        if (saved == null) {
            throw new IllegalStateException();
        }
        state = saved;
        changes.clear();
        return 0;
    }
}
