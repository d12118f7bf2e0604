import java.util.List;
import java.util.function.Function;
import java.util.function.Supplier;

/**
 * For each promise: the last argument that is allowed and the first that is not, on both sides, with desks that are
 * empty and full; what a call that fails leaves; and, of several exceptions that are due, the one that is listed first.
 */
final class EdgeTests extends DeskTests {
    private static final int[] WRONG_CREDITS = {-1, 3, Integer.MIN_VALUE, Integer.MAX_VALUE};
    private static final int[] WRONG_BLOCKS = {-1, 4, Integer.MIN_VALUE, Integer.MAX_VALUE};
    private static final int[] WRONG_EQUIVALENCES = {-1, 2, Integer.MIN_VALUE, Integer.MAX_VALUE};
    private static final List<Supplier<CreditTransfer>> DESKS =
            List.of(CreditTransfer::new, DeskTests::someDesk, DeskTests::fullDesk);

    private EdgeTests(Check check) {
        super(check);
    }

    static void runAll(Check check) {
        EdgeTests tests = new EdgeTests(check);
        tests.promises1To6();
        tests.promises7To13();
        tests.promises14To22();
        tests.promises23To34();
    }

    private void promises1To6() {
        says("Promise 1, the edges", this::newObject);
        says("Promise 2, the edges", this::addCredit);
        says("Promise 3, the edges", this::dropCredit);
        says("Promise 4, the edges", this::credit);
        says("Promise 5, the edges", this::code);
        says("Promise 6, the edges", this::expires);
    }

    private void promises7To13() {
        says("Promise 7, the edges", this::addEquivalence);
        says("Promise 8, the edges", this::equivalent);
        says("Promise 9, the edges", this::apply);
        says("Promise 10, the edges", this::rootsBy);
        says("Promise 11, the edges", this::bestEquivalence);
        says("Promise 12, the edges", this::append);
        says("Promise 13, the edges", this::readProgram);
    }

    private void promises14To22() {
        says("Promise 14, the edges", this::faultPosition);
        says("Promise 15, the edges", this::refusal);
        says("Promise 16, the edges", this::block);
        says("Promise 17, the edges", this::part);
        says("Promise 18, the edges", this::letter);
        says("Promise 19, the edges", this::accepts);
        says("Promises 20 and 21, the edges", this::isMetAndPoints);
        says("Promise 22, the edges", this::lacks);
    }

    private void promises23To34() {
        says("Promise 23, the edges", this::isComplete);
        says("Promise 24, the edges", this::rootsWith);
        says("Promise 25, the edges", this::lapses);
        says("Promise 26, the edges", this::layers);
        says("Promise 27, the edges", this::why);
        says("Promises 28 and 29, the edges", this::passAndYear);
        says("Promise 30, the edges", this::account);
        says("Promise 31, the edges", this::meanGrade);
        says("Promise 32, the edges", this::undo);
        says("Promises 33 and 34, the edges", this::saveAndRestore);
    }

    /** On an empty desk, one with some of all, and a full one. */
    private void failsOnAll(Class<? extends RuntimeException> due, Function<CreditTransfer, Object> call) {
        for (Supplier<CreditTransfer> maker : DESKS) {
            failsAlike(maker, due, call);
        }
    }

    private void newObject() {
        CreditTransfer x = new CreditTransfer();
        for (int what = 0; what <= 9; what++) {
            check.equal(x.account(what), 0);
        }
        // Objects share nothing.
        CreditTransfer other = fullDesk();
        other.save();
        check.fails(REFUSED, () -> other.addCredit('a', 1, 10, 0));
        check.equal(new Shown(x).desk(), new Shown(new CreditTransfer()).desk());
        CreditTransfer last = new CreditTransfer();
        check.fails(ELEMENT, last::refusal);
        check.equal(last.faultPosition(), -1);
    }

    private void addCredit() {
        failsOnAll(ARGUMENT, x -> x.addCredit('1', 5, 10, 0));
        failsOnAll(ARGUMENT, x -> x.addCredit('a', 0, 10, 0));
        failsOnAll(ARGUMENT, x -> x.addCredit('a', 13, 10, 0));
        failsOnAll(ARGUMENT, x -> x.addCredit('a', 5, -1, 0));
        failsOnAll(ARGUMENT, x -> x.addCredit('a', 5, 21, 0));
        failsOnAll(ARGUMENT, x -> x.addCredit('a', 5, 10, -1));
        failsOnAll(ARGUMENT, x -> x.addCredit('a', 5, 10, 61));
        // With 6 credits an argument out of range still comes first, and no reason is kept: fullDesk has 6.
        refuses(DeskTests::fullDesk, 1, x -> x.addCredit('a', 5, 10, 0));
        refuses(DeskTests::fullDesk, 1, x -> x.addCredit('Z', 12, 20, 60));
        CreditTransfer x = someDesk();
        check.equal(x.addCredit('z', 12, 20, 5), 3);
        check.equal(x.addCredit('Z', 1, 0, 0), 4);
        check.equal(x.addCredit('A', 1, 20, 5), 5);
        check.fails(ARGUMENT, () -> x.addCredit('A', 1, 20, 6));
        check.fails(REFUSED, () -> x.addCredit('A', 1, 20, 5));
    }

    private void dropCredit() {
        failsAlike(CreditTransfer::new, INDEX, x -> x.dropCredit(0));
        for (int wrong : WRONG_CREDITS) {
            failsAlike(DeskTests::someDesk, INDEX, x -> x.dropCredit(wrong));
        }
        failsAlike(DeskTests::fullDesk, INDEX, x -> x.dropCredit(6));
        CreditTransfer x = fullDesk();
        check.equal(x.dropCredit(5), 5);
        check.fails(INDEX, () -> x.dropCredit(5));
        check.equal(x.dropCredit(0), 4);
        check.equal(x.code(0), 'b');
        check.equal(x.code(3), 'E');
    }

    private void credit() {
        failsAlike(CreditTransfer::new, INDEX, x -> x.credit(0, 0));
        for (int wrong : WRONG_CREDITS) {
            for (int what = 0; what <= 4; what++) {
                int asked = what;
                check.fails(INDEX, () -> someDesk().credit(wrong, asked));
            }
            // Both are wrong: the credit comes first.
            failsAlike(DeskTests::someDesk, INDEX, x -> x.credit(wrong, 5));
            failsAlike(DeskTests::someDesk, INDEX, x -> x.credit(wrong, -1));
        }
        failsAlike(DeskTests::someDesk, ARGUMENT, x -> x.credit(0, 5));
        failsAlike(DeskTests::someDesk, ARGUMENT, x -> x.credit(2, -1));
        failsAlike(DeskTests::fullDesk, ARGUMENT, x -> x.credit(5, Integer.MIN_VALUE));
        failsAlike(DeskTests::fullDesk, INDEX, x -> x.credit(6, 0));
        CreditTransfer x = someDesk();
        check.equal(x.credit(2, 0), 6);
        check.equal(x.credit(2, 1), 14);
        check.equal(x.credit(2, 2), 5);
        check.equal(x.credit(2, 3), 1);
        check.equal(x.credit(2, 4), 1 << 1 | 1 << 3);
        check.equal(x.credit(0, 3), -1);
        check.equal(x.credit(0, 4), 0);
        // The greatest number of a block in such a set.
        CreditTransfer y = desk("[1:[1:a9,bc2]][2:[1:ab3>12],c1<0]");
        y.addCredit('c', 1, 10, 0);
        check.equal(y.credit(0, 4), 1 << 3 | 1 << 7);
        check.equal(y.credit(0, 3), 7);
    }

    private void code() {
        failsAlike(CreditTransfer::new, INDEX, x -> x.code(0));
        for (int wrong : WRONG_CREDITS) {
            failsAlike(DeskTests::someDesk, INDEX, x -> x.code(wrong));
        }
        failsAlike(DeskTests::fullDesk, INDEX, x -> x.code(6));
        check.equal(someDesk().code(0), 'A');
        check.equal(someDesk().code(2), 'b');
        check.equal(fullDesk().code(5), 'a');
    }

    private void expires() {
        failsAlike(CreditTransfer::new, INDEX, x -> x.expires(0, 0));
        for (int wrong : WRONG_CREDITS) {
            failsAlike(DeskTests::someDesk, INDEX, x -> x.expires(wrong, 1));
            // The block is a group, too: that there is no such credit comes first.
            failsAlike(DeskTests::someDesk, INDEX, x -> x.expires(wrong, 0));
        }
        for (int wrong : WRONG_BLOCKS) {
            failsAlike(DeskTests::someDesk, INDEX, x -> x.expires(0, wrong));
            failsAlike(DeskTests::someDesk, INDEX, x -> x.expires(-1, wrong));
        }
        failsAlike(DeskTests::someDesk, STATE, x -> x.expires(0, 0));
        CreditTransfer y = desk("a1<0a1<1a1<2a1<60");
        y.pass(60);
        y.addCredit('b', 1, 0, 59);
        y.addCredit('A', 1, 0, 0);
        y.addCredit('a', 1, 10, 60);
        int[][] due = {{59, 60, 60, 60}, {0, 1, 2, 60}, {60, 60, 60, 60}};
        for (int i = 0; i < due.length; i++) {
            for (int b = 0; b < due[i].length; b++) {
                check.equal(y.expires(i, b), due[i][b]);
            }
        }
    }

    private void addEquivalence() {
        failsOnAll(ARGUMENT, x -> x.addEquivalence('a', ' ', 'a', ' '));
        failsOnAll(ARGUMENT, x -> x.addEquivalence('A', 'b', 'a', ' '));
        failsOnAll(ARGUMENT, x -> x.addEquivalence('A', ' ', 'A', ' '));
        failsOnAll(ARGUMENT, x -> x.addEquivalence('A', ' ', 'a', 'B'));
        failsOnAll(ARGUMENT, x -> x.addEquivalence('A', 'A', 'a', ' '));
        failsOnAll(ARGUMENT, x -> x.addEquivalence('A', ' ', 'a', 'a'));
        failsOnAll(ARGUMENT, x -> x.addEquivalence(' ', ' ', 'a', ' '));
        failsOnAll(ARGUMENT, x -> x.addEquivalence('A', ' ', ' ', ' '));
        failsAlike(DeskTests::fullDesk, STATE, x -> x.addEquivalence('A', ' ', 'a', ' '));
        failsAlike(DeskTests::fullDesk, STATE, x -> x.addEquivalence('Z', 'A', 'z', 'a'));
        CreditTransfer x = someDesk();
        for (int i = 2; i < 8; i++) {
            check.equal(x.addEquivalence('Z', 'Y', 'z', 'y'), i);
        }
        check.fails(STATE, () -> x.addEquivalence('Z', 'Y', 'z', 'y'));
        check.equal(x.undo(), 7);
        check.equal(x.addEquivalence('A', 'Z', 'a', 'z'), 7);
        check.equal(x.equivalent(7, 1), 'Z');
    }

    private void equivalent() {
        failsAlike(CreditTransfer::new, INDEX, x -> x.equivalent(0, 0));
        for (int wrong : WRONG_EQUIVALENCES) {
            for (int what = 0; what <= 3; what++) {
                int asked = what;
                check.fails(INDEX, () -> someDesk().equivalent(wrong, asked));
            }
            // Both are wrong: the equivalence comes first.
            failsAlike(DeskTests::someDesk, INDEX, x -> x.equivalent(wrong, 4));
            failsAlike(DeskTests::someDesk, INDEX, x -> x.equivalent(wrong, -1));
        }
        failsAlike(DeskTests::someDesk, ARGUMENT, x -> x.equivalent(0, 4));
        failsAlike(DeskTests::someDesk, ARGUMENT, x -> x.equivalent(1, -1));
        failsAlike(DeskTests::fullDesk, INDEX, x -> x.equivalent(8, 0));
        failsAlike(DeskTests::fullDesk, ARGUMENT, x -> x.equivalent(7, Integer.MAX_VALUE));
        String letters = "HZab";
        for (int what = 0; what <= 3; what++) {
            check.equal(fullDesk().equivalent(7, what), letters.charAt(what));
            check.equal(someDesk().equivalent(1, what), "B c ".charAt(what));
        }
    }

    private void apply() {
        failsAlike(CreditTransfer::new, INDEX, x -> x.apply(0));
        for (int wrong : WRONG_EQUIVALENCES) {
            failsAlike(DeskTests::someDesk, INDEX, x -> x.apply(wrong));
        }
        failsAlike(DeskTests::fullDesk, INDEX, x -> x.apply(8));
        refuses(DeskTests::someDesk, 2, x -> x.apply(1));
        // A is not passed there, and 7 would be kept: the reasons stand in the order 2, 1.
        refuses(DeskTests::fullDesk, 2, x -> x.apply(0));
        refuses(DeskTests::fullDesk, 1, x -> x.apply(4));
        CreditTransfer x = fullDesk();
        x.dropCredit(0);
        check.equal(x.apply(4), 2);
        credits(x, "b 2 20 59", "c 1 10 60", "A 12 0 0", "a 6 10 60", "a 3 15 7", "b 2 15 7");
        check.fails(ELEMENT, x::refusal);
    }

    private void rootsBy() {
        failsAlike(CreditTransfer::new, INDEX, x -> x.rootsBy(0));
        for (int wrong : WRONG_EQUIVALENCES) {
            failsAlike(DeskTests::someDesk, INDEX, x -> x.rootsBy(wrong));
        }
        failsAlike(DeskTests::fullDesk, INDEX, x -> x.rootsBy(8));
        failsAlike(DeskTests::someDesk, ELEMENT, x -> x.rootsBy(1));
        failsAlike(DeskTests::fullDesk, ELEMENT, x -> x.rootsBy(0));
        failsAlike(DeskTests::fullDesk, ELEMENT, x -> x.rootsBy(4));
        // It can be fewer roots than there are, and none.
        CreditTransfer x = desk("a5b5");
        x.pass(9);
        x.addCredit('A', 10, 9, 9);
        x.addEquivalence('A', ' ', 'a', 'b');
        check.fails(ELEMENT, () -> x.rootsBy(0));
        x.addCredit('A', 10, 10, 9);
        check.equal(x.rootsBy(0), 2);
        readsTo(x, "a5b6", 2);
        check.equal(x.rootsBy(0), 1);
        readsTo(x, "a6b6", 2);
        check.equal(x.rootsBy(0), 0);
        readsTo(x, "a5>11b5", 2);
        check.equal(x.rootsBy(0), 1);
    }

    private void bestEquivalence() {
        failsAlike(CreditTransfer::new, ELEMENT, CreditTransfer::bestEquivalence);
        failsAlike(DeskTests::fullDesk, ELEMENT, CreditTransfer::bestEquivalence);
        CreditTransfer x = desk("a5b5");
        x.addEquivalence('B', ' ', 'a', ' ');
        x.addEquivalence('A', ' ', 'c', ' ');
        x.addEquivalence('A', ' ', 'd', ' ');
        check.fails(ELEMENT, x::bestEquivalence);
        // No roots by the one or the other are enough for the lowest one that is not refused.
        x.addCredit('A', 10, 10, 0);
        check.equal(x.bestEquivalence(), 1);
        x.addEquivalence('A', ' ', 'a', ' ');
        x.addEquivalence('A', ' ', 'b', ' ');
        check.equal(x.bestEquivalence(), 3);
        x.addEquivalence('A', ' ', 'b', 'a');
        x.addEquivalence('A', ' ', 'a', 'b');
        check.equal(x.bestEquivalence(), 5);
        check.fails(ELEMENT, x::refusal);
    }

    private void append() {
        failsAlike(DeskTests::fullDesk, STATE, x -> { x.append('q'); return 0; });
        failsAlike(DeskTests::fullDesk, STATE, x -> { x.append((char) 0); return 0; });
        CreditTransfer x = new CreditTransfer();
        for (int i = 0; i < 25; i++) {
            put(x, "a1");
        }
        check.fails(STATE, () -> { x.append('<'); return 0; });
        check.fails(REFUSED, x::readProgram);
        check.equal(x.faultPosition(), -1);
        // The buffer is empty again, and takes any character.
        for (int i = 0; i < 50; i++) {
            x.append((char) (i == 0 ? 'a' : 65535 - i));
        }
        check.fails(STATE, () -> { x.append('a'); return 0; });
        check.fails(ARGUMENT, x::readProgram);
        check.equal(x.faultPosition(), 1);
        x.append((char) 65535);
        check.fails(ARGUMENT, x::readProgram);
        check.equal(x.faultPosition(), 0);
    }

    /** The text fails, and the desk else shows what one shows on which no text was put. */
    private void textFails(Supplier<CreditTransfer> maker, String text, Class<? extends RuntimeException> due, int fault) {
        CreditTransfer x = maker.get();
        put(x, text);
        check.fails(due, x::readProgram);
        check.equal(x.faultPosition(), fault);
        check.equal(new Shown(x).desk(), new Shown(maker.get()).desk());
    }

    private static CreditTransfer someDeskWithoutText() {
        CreditTransfer x = desk("[1:ab5<2,c3]b4>12");
        x.pass(5);
        x.addCredit('a', 5, 14, 4);
        x.save();
        x.addCredit('b', 6, 14, 5);
        return x;
    }

    private void readProgram() {
        textFails(CreditTransfer::new, "", ARGUMENT, 0);
        textFails(CreditTransfer::new, "a1]", ARGUMENT, 2);
        textFails(CreditTransfer::new, "a0", REFUSED, -1);
        textFails(EdgeTests::someDeskWithoutText, "", ARGUMENT, 0);
        textFails(EdgeTests::someDeskWithoutText, "[1:a1", ARGUMENT, 5);
        textFails(EdgeTests::someDeskWithoutText, "a31", REFUSED, -1);
        textFails(EdgeTests::someDeskWithoutText, "a1b1c1d1e1", REFUSED, -1);
        textFails(EdgeTests::someDeskWithoutText, "[2:a1]", REFUSED, -1);
        // A fault and a reason: the fault comes first, and no reason is kept.
        textFails(EdgeTests::someDeskWithoutText, "a31]", ARGUMENT, 3);
        CreditTransfer x = someDesk();
        readsTo(x, "<3,b1]", 3);
        check.equal(x.letter(1, 0), 'z');
        check.fails(ARGUMENT, x::readProgram);
        check.equal(x.faultPosition(), 0);
        check.equal(x.account(2), 3);
        CreditTransfer full = fullDesk();
        check.fails(ARGUMENT, full::readProgram);
        check.equal(full.faultPosition(), 50);
        check.equal(full.account(2), 8);
        put(full, "[1:[1:[1:z30<60>20]]][1:[1:[1:zyxwv30<60>20]]]a100");
        check.fails(STATE, () -> { full.append('1'); return 0; });
        check.fails(ARGUMENT, full::readProgram);
        check.equal(full.faultPosition(), 49);
    }

    private void faultPosition() {
        CreditTransfer x = new CreditTransfer();
        check.equal(x.faultPosition(), -1);
        put(x, "a1a");
        check.equal(x.faultPosition(), -1);
        check.fails(ARGUMENT, x::readProgram);
        check.equal(x.faultPosition(), 3);
        put(x, "a");
        check.equal(x.faultPosition(), 3);
        x.pass(1);
        check.equal(x.faultPosition(), 3);
        check.fails(ARGUMENT, x::readProgram);
        check.equal(x.faultPosition(), 1);
        put(x, "a0");
        check.fails(REFUSED, x::readProgram);
        check.equal(x.faultPosition(), -1);
        check.fails(ARGUMENT, x::readProgram);
        check.equal(x.faultPosition(), 0);
        readsTo(x, "a1", 1);
    }

    private void refusal() {
        CreditTransfer x = new CreditTransfer();
        check.fails(ELEMENT, x::refusal);
        x.addEquivalence('A', ' ', 'a', ' ');
        check.fails(ARGUMENT, () -> x.addCredit('a', 0, 10, 0));
        check.fails(INDEX, () -> x.apply(1));
        check.fails(ARGUMENT, x::readProgram);
        check.fails(ELEMENT, x::refusal);
        check.fails(REFUSED, () -> x.apply(0));
        check.equal(x.refusal(), 2);
        // A call that is not refused forgets no reason, nor does one that fails for another cause.
        x.addCredit('A', 1, 10, 0);
        check.equal(x.apply(0), 1);
        check.fails(INDEX, () -> x.apply(1));
        check.fails(ARGUMENT, x::readProgram);
        readsTo(x, "a1", 1);
        check.equal(x.refusal(), 2);
        put(x, "[2:a1]");
        check.fails(REFUSED, x::readProgram);
        check.equal(x.refusal(), 5);
    }

    private void block() {
        failsAlike(CreditTransfer::new, INDEX, x -> x.block(0, 0));
        for (int wrong : WRONG_BLOCKS) {
            for (int what = 0; what <= 7; what++) {
                int asked = what;
                check.fails(INDEX, () -> someDesk().block(wrong, asked));
            }
            // Both are wrong: the block comes first.
            failsAlike(DeskTests::someDesk, INDEX, x -> x.block(wrong, 8));
            failsAlike(DeskTests::someDesk, INDEX, x -> x.block(wrong, -1));
        }
        failsAlike(DeskTests::someDesk, ARGUMENT, x -> x.block(0, 8));
        failsAlike(DeskTests::someDesk, ARGUMENT, x -> x.block(3, -1));
        failsAlike(DeskTests::fullDesk, INDEX, x -> x.block(8, 0));
        CreditTransfer x = fullDesk();
        blockIs(x, 0, 1, -1, 1, 1, -1, -1, 0, 0);
        blockIs(x, 1, 1, 0, 2, 1, -1, -1, 0, 1);
        blockIs(x, 3, 0, 1, 0, 2, 60, 10, 2, 2);
        blockIs(x, 4, 1, -1, 2, 2, -1, -1, 0, 0);
        blockIs(x, 6, 0, 5, 0, 3, 60, 12, 2, 2);
        blockIs(x, 7, 0, 4, 0, 1, 0, 10, 1, 1);
    }

    private void part() {
        failsAlike(CreditTransfer::new, INDEX, x -> x.part(0, 0));
        for (int wrong : WRONG_BLOCKS) {
            // Both are wrong: the block comes first.
            failsAlike(DeskTests::someDesk, INDEX, x -> x.part(wrong, 0));
            failsAlike(DeskTests::someDesk, INDEX, x -> x.part(wrong, -1));
        }
        int[] wrongParts = {-1, 2, Integer.MIN_VALUE, Integer.MAX_VALUE};
        for (int wrong : wrongParts) {
            failsAlike(DeskTests::someDesk, ELEMENT, x -> x.part(0, wrong));
            failsAlike(DeskTests::someDesk, ELEMENT, x -> x.part(1, wrong));
        }
        failsAlike(DeskTests::someDesk, ELEMENT, x -> x.part(3, 0));
        check.equal(someDesk().part(0, 0), 1);
        check.equal(someDesk().part(0, 1), 2);
        check.equal(fullDesk().part(4, 0), 5);
        check.equal(fullDesk().part(4, 1), 7);
        check.fails(INDEX, () -> fullDesk().part(8, 0));
        check.equal(desk("[1:a1,b1,c1,d1]").part(0, 3), 4);
    }

    private void letter() {
        failsAlike(CreditTransfer::new, INDEX, x -> x.letter(0, 0));
        for (int wrong : WRONG_BLOCKS) {
            // Both are wrong: the block comes first.
            failsAlike(DeskTests::someDesk, INDEX, x -> x.letter(wrong, 0));
            failsAlike(DeskTests::someDesk, INDEX, x -> x.letter(wrong, -1));
        }
        int[] wrongLetters = {-1, 2, Integer.MIN_VALUE, Integer.MAX_VALUE};
        for (int wrong : wrongLetters) {
            failsAlike(DeskTests::someDesk, ELEMENT, x -> x.letter(1, wrong));
            failsAlike(DeskTests::someDesk, ELEMENT, x -> x.letter(0, wrong));
        }
        failsAlike(DeskTests::someDesk, ELEMENT, x -> x.letter(0, 0));
        check.equal(someDesk().letter(1, 0), 'a');
        check.equal(someDesk().letter(1, 1), 'b');
        check.equal(someDesk().letter(3, 0), 'b');
        check.equal(desk("zyxwv1").letter(0, 4), 'v');
        check.fails(ELEMENT, () -> desk("zyxwv1").letter(0, 5));
    }

    private void accepts() {
        failsAlike(CreditTransfer::new, INDEX, x -> x.accepts(0, 0));
        for (int wrong : WRONG_BLOCKS) {
            failsAlike(DeskTests::someDesk, INDEX, x -> x.accepts(wrong, 0));
            failsAlike(DeskTests::someDesk, INDEX, x -> x.accepts(wrong, -1));
        }
        for (int wrong : WRONG_CREDITS) {
            failsAlike(DeskTests::someDesk, INDEX, x -> x.accepts(1, wrong));
            // A group accepts none, but there must be such a credit.
            failsAlike(DeskTests::someDesk, INDEX, x -> x.accepts(0, wrong));
        }
        CreditTransfer x = someDesk();
        check.equal(x.accepts(0, 2), false);
        check.equal(x.accepts(1, 2), true);
        check.equal(x.accepts(2, 2), false);
        check.equal(x.accepts(3, 2), true);
        check.equal(x.accepts(1, 0), false);
        check.equal(x.accepts(1, 1), false);
        // Whether another leaf gets it does not matter.
        check.equal(x.credit(2, 3), 1);
        CreditTransfer noCredits = desk("a1");
        check.fails(INDEX, () -> noCredits.accepts(0, 0));
    }

    private void isMetAndPoints() {
        failsAlike(CreditTransfer::new, INDEX, x -> x.isMet(0));
        failsAlike(CreditTransfer::new, INDEX, x -> x.points(0));
        for (int wrong : WRONG_BLOCKS) {
            failsAlike(DeskTests::someDesk, INDEX, x -> x.isMet(wrong));
            failsAlike(DeskTests::someDesk, INDEX, x -> x.points(wrong));
        }
        failsAlike(DeskTests::fullDesk, INDEX, x -> x.isMet(8));
        failsAlike(DeskTests::fullDesk, INDEX, x -> x.points(8));
        CreditTransfer x = fullDesk();
        // Of the six, c 1 meets the last leaf, b 2 the second one, and both a, 3 and 6, the first one.
        isMetSet(x, true, true, true, true, false, false, false, true);
        takers(x, 2, 3, 7, -1, -1, 2);
        int[] points = {11, 11, 9, 2, 1, 0, 0, 1};
        for (int b = 0; b < points.length; b++) {
            check.equal(x.points(b), points[b]);
        }
    }

    private void lacks() {
        failsAlike(CreditTransfer::new, INDEX, x -> x.lacks(0));
        for (int wrong : WRONG_BLOCKS) {
            failsAlike(DeskTests::someDesk, INDEX, x -> x.lacks(wrong));
        }
        failsAlike(DeskTests::someDesk, STATE, x -> x.lacks(0));
        CreditTransfer x = someDesk();
        check.equal(x.lacks(1), 0);
        check.equal(x.lacks(2), 3);
        check.equal(x.lacks(3), 4);
        CreditTransfer y = desk("a30");
        check.equal(y.lacks(0), 30);
        for (int i = 0; i < 3; i++) {
            y.addCredit('a', 10, 10, 0);
        }
        check.equal(y.lacks(0), 0);
        y.dropCredit(0);
        y.addCredit('a', 12, 10, 0);
        check.equal(y.points(0), 32);
        check.equal(y.lacks(0), 0);
    }

    private void isComplete() {
        check.equal(new CreditTransfer().isComplete(), false);
        CreditTransfer one = desk("a1");
        check.equal(one.isComplete(), false);
        one.addCredit('a', 1, 10, 0);
        check.equal(one.isComplete(), true);
        CreditTransfer x = desk("[1:a1,z30]b1");
        check.equal(x.isComplete(), false);
        x.addCredit('a', 1, 10, 0);
        check.equal(x.isComplete(), false);
        x.addCredit('b', 1, 10, 0);
        check.equal(x.isComplete(), true);
        check.equal(x.isMet(2), false);
        x.dropCredit(0);
        check.equal(x.isComplete(), false);
    }

    private void rootsWith() {
        failsOnAll(ARGUMENT, x -> x.rootsWith('1', 5, 10, 0));
        failsOnAll(ARGUMENT, x -> x.rootsWith('a', 0, 10, 0));
        failsOnAll(ARGUMENT, x -> x.rootsWith('a', 13, 10, 0));
        failsOnAll(ARGUMENT, x -> x.rootsWith('a', 5, -1, 0));
        failsOnAll(ARGUMENT, x -> x.rootsWith('a', 5, 21, 0));
        failsOnAll(ARGUMENT, x -> x.rootsWith('a', 5, 10, -1));
        failsOnAll(ARGUMENT, x -> x.rootsWith('a', 5, 10, 61));
        // Not refused, but in a state: no reason is kept.
        failsAlike(DeskTests::fullDesk, STATE, x -> x.rootsWith('a', 5, 10, 0));
        CreditTransfer x = desk("z12>20");
        x.pass(60);
        for (int i = 0; i < 5; i++) {
            check.equal(x.rootsWith('z', 12, 20, 60), 1);
            check.equal(x.rootsWith('z', 12, 19, 60), 0);
            check.equal(x.rootsWith('z', 11, 20, 60), 0);
            check.equal(x.rootsWith('z', 12, 20, 0), 1);
            x.addCredit('A', 1, 0, 0);
        }
        check.equal(x.rootsWith('z', 12, 20, 60), 1);
        x.addCredit('A', 1, 0, 0);
        check.fails(STATE, () -> x.rootsWith('z', 12, 20, 60));
        CreditTransfer empty = new CreditTransfer();
        check.equal(empty.rootsWith('a', 1, 0, 0), 0);
        check.fails(ARGUMENT, () -> empty.rootsWith('a', 1, 0, 1));
    }

    private void lapses() {
        failsAlike(CreditTransfer::new, ELEMENT, CreditTransfer::lapses);
        CreditTransfer x = desk("a1<0b1<57c1<56");
        x.addCredit('c', 1, 10, 0);
        check.equal(x.lapses(), 57);
        x.addCredit('a', 1, 10, 0);
        check.equal(x.lapses(), 1);
        x.pass(2);
        check.equal(x.lapses(), 57);
        x.addCredit('b', 1, 10, 2);
        check.equal(x.lapses(), 57);
        x.dropCredit(0);
        check.equal(x.lapses(), 60);
        x.pass(57);
        check.equal(x.lapses(), 60);
        x.pass(1);
        check.fails(ELEMENT, x::lapses);
        CreditTransfer y = desk("b1<57");
        y.pass(3);
        y.addCredit('b', 1, 10, 3);
        check.fails(ELEMENT, y::lapses);
        // A root that can be met in another way does not lapse with the first credit.
        CreditTransfer z = desk("a1<3");
        z.pass(5);
        z.addCredit('a', 1, 10, 2);
        z.addCredit('a', 1, 10, 4);
        check.equal(z.lapses(), 8);
        // Roots that are met in no year do not lapse.
        CreditTransfer none = desk("a9<3");
        none.addCredit('a', 8, 10, 0);
        check.fails(ELEMENT, none::lapses);
    }

    private void layers() {
        failsAlike(CreditTransfer::new, INDEX, x -> x.layers(0));
        for (int wrong : WRONG_BLOCKS) {
            failsAlike(DeskTests::someDesk, INDEX, x -> x.layers(wrong));
        }
        failsAlike(DeskTests::fullDesk, INDEX, x -> x.layers(8));
        int[] due = {0, 0, 1, 2};
        for (int b = 0; b < due.length; b++) {
            check.equal(someDesk().layers(b), due[b]);
        }
        layersAre(fullDesk(), 4, 1, 1, 1, 0, 2, 3, 3, 0);
        layersAre(fullDesk(), 6, 2, 3, 3, 0);
    }

    private void why() {
        failsAlike(CreditTransfer::new, INDEX, x -> x.why(0, 0, 0));
        for (int wrong : WRONG_BLOCKS) {
            failsAlike(DeskTests::someDesk, INDEX, x -> x.why(wrong, 0, 0));
            // Two and three are wrong: the block comes first.
            failsAlike(DeskTests::someDesk, INDEX, x -> x.why(wrong, -1, 0));
            failsAlike(DeskTests::someDesk, INDEX, x -> x.why(wrong, 0, 2));
            failsAlike(DeskTests::someDesk, INDEX, x -> x.why(wrong, 5, -1));
        }
        int[] wrongLayers = {-1, 2, Integer.MIN_VALUE, Integer.MAX_VALUE};
        for (int wrong : wrongLayers) {
            failsAlike(DeskTests::someDesk, ELEMENT, x -> x.why(3, wrong, 0));
            // The layer comes before the part of it.
            failsAlike(DeskTests::someDesk, ELEMENT, x -> x.why(3, wrong, 2));
        }
        failsAlike(DeskTests::someDesk, ELEMENT, x -> x.why(0, 0, 0));
        failsAlike(DeskTests::someDesk, ELEMENT, x -> x.why(1, 0, 2));
        int[] wrongParts = {-1, 2, Integer.MIN_VALUE, Integer.MAX_VALUE};
        for (int wrong : wrongParts) {
            failsAlike(DeskTests::someDesk, ARGUMENT, x -> x.why(3, 0, wrong));
            failsAlike(DeskTests::someDesk, ARGUMENT, x -> x.why(3, 1, wrong));
        }
        layersAre(someDesk(), 3, 2, 4, 5, 2);
    }

    private void passAndYear() {
        failsOnAll(ARGUMENT, x -> x.pass(-1));
        failsOnAll(ARGUMENT, x -> x.pass(61));
        failsOnAll(ARGUMENT, x -> x.pass(Integer.MIN_VALUE));
        failsOnAll(ARGUMENT, x -> x.pass(Integer.MAX_VALUE));
        failsAlike(DeskTests::someDesk, ARGUMENT, x -> x.pass(56));
        failsAlike(DeskTests::someDesk, ARGUMENT, x -> x.pass(Integer.MAX_VALUE - 5));
        failsAlike(DeskTests::fullDesk, ARGUMENT, x -> x.pass(1));
        CreditTransfer x = someDesk();
        check.equal(x.pass(55), 60);
        check.equal(x.year(), 60);
        check.equal(x.pass(0), 60);
        check.equal(new CreditTransfer().pass(60), 60);
        check.equal(fullDesk().pass(0), 60);
    }

    private void account() {
        int[] wrongAccounts = {-1, 10, Integer.MIN_VALUE, Integer.MAX_VALUE};
        for (int wrong : wrongAccounts) {
            failsOnAll(ARGUMENT, x -> x.account(wrong));
        }
        int[] some = {3, 2, 4, 3, 2, 1, 1, 6, 18, 2};
        int[] full = {6, 8, 8, 4, 2, 1, 3, 12, 29, 2};
        for (int what = 0; what <= 9; what++) {
            check.equal(new CreditTransfer().account(what), 0);
            check.equal(someDesk().account(what), some[what]);
            check.equal(fullDesk().account(what), full[what]);
        }
    }

    private void meanGrade() {
        failsAlike(CreditTransfer::new, ARITHMETIC, CreditTransfer::meanGrade);
        CreditTransfer x = desk("a1b1");
        check.fails(ARITHMETIC, x::meanGrade);
        x.addCredit('c', 12, 20, 0);
        check.fails(ARITHMETIC, x::meanGrade);
        x.addCredit('a', 1, 10, 0);
        check.equal(x.meanGrade(), 10.0);
        x.addCredit('b', 2, 20, 0);
        check.equal(x.meanGrade(), 50.0 / 3.0);
        CreditTransfer y = desk("a12");
        y.addCredit('a', 12, 20, 0);
        check.equal(y.meanGrade(), 20.0);
        check.equal(someDesk().meanGrade(), 14.0);
        check.equal(fullDesk().meanGrade(), (3 * 11 + 2 * 20 + 10 + 6 * 10) / 12.0);
    }

    private void undo() {
        failsAlike(CreditTransfer::new, STATE, CreditTransfer::undo);
        CreditTransfer x = someDesk();
        for (int i = 6; i >= 0; i--) {
            check.equal(x.undo(), i);
        }
        check.fails(STATE, x::undo);
        check.equal(x.account(2), 0);
        CreditTransfer full = fullDesk();
        for (int i = 7; i >= 0; i--) {
            check.equal(full.undo(), i);
        }
        check.fails(STATE, full::undo);
        check.equal(full.account(0), 0);
        check.equal(full.account(1), 7);
        check.equal(full.account(2), 0);
    }

    private void saveAndRestore() {
        failsAlike(CreditTransfer::new, STATE, x -> { x.restore(); return 0; });
        // To save an empty desk is to have a snapshot.
        CreditTransfer empty = new CreditTransfer();
        empty.save();
        empty.addCredit('a', 1, 10, 0);
        empty.restore();
        check.equal(empty.account(0), 0);
        // An earlier snapshot is lost, the latest one is kept.
        CreditTransfer x = new CreditTransfer();
        x.pass(1);
        x.save();
        x.pass(1);
        x.save();
        x.pass(1);
        for (int i = 0; i < 3; i++) {
            x.restore();
            check.equal(x.year(), 2);
            check.fails(STATE, x::undo);
            x.pass(10 + i);
        }
        // A snapshot takes no part in undo, and undo none in the snapshot.
        CreditTransfer y = new CreditTransfer();
        y.pass(1);
        y.save();
        check.equal(y.undo(), 0);
        check.equal(y.year(), 0);
        y.restore();
        check.equal(y.year(), 1);
        check.fails(STATE, y::undo);
    }
}
