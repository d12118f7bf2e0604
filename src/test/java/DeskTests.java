import java.util.NoSuchElementException;
import java.util.function.Function;
import java.util.function.Supplier;

/** What the tests of promises and of sentences share: desks to begin with, and ways to look at them. */
abstract class DeskTests {
    static final Class<IllegalArgumentException> ARGUMENT = IllegalArgumentException.class;
    static final Class<IllegalStateException> STATE = IllegalStateException.class;
    static final Class<IndexOutOfBoundsException> INDEX = IndexOutOfBoundsException.class;
    static final Class<NoSuchElementException> ELEMENT = NoSuchElementException.class;
    static final Class<UnsupportedOperationException> REFUSED = UnsupportedOperationException.class;
    static final Class<ArithmeticException> ARITHMETIC = ArithmeticException.class;

    static final int[] WRONG_INDICES = {-1, 9, Integer.MIN_VALUE, Integer.MAX_VALUE};

    final Check check;

    DeskTests(Check check) {
        this.check = check;
    }

    /** A test of its own for one sentence of the document. */
    final void says(String sentence, Runnable test) {
        check.begin(sentence);
        test.run();
    }

    static void put(CreditTransfer x, String text) {
        for (int i = 0; i < text.length(); i++) {
            x.append(text.charAt(i));
        }
    }

    static CreditTransfer desk(String program) {
        CreditTransfer x = new CreditTransfer();
        put(x, program);
        x.readProgram();
        return x;
    }

    /** A desk with some of all: four blocks, three credits, two equivalences, a snapshot, a text that is begun. */
    static CreditTransfer someDesk() {
        CreditTransfer x = desk("[1:ab5<2,c3]b4>12");
        x.pass(5);
        x.addCredit('A', 7, 12, 2);
        x.addCredit('a', 5, 9, 1);
        x.save();
        x.addCredit('b', 6, 14, 5);
        x.addEquivalence('A', ' ', 'a', 'c');
        x.addEquivalence('B', ' ', 'c', ' ');
        put(x, "[1:z9");
        return x;
    }

    /** A desk with all that it can keep: 6 credits, 8 equivalences, 8 blocks, 8 changes, 50 characters. */
    static CreditTransfer fullDesk() {
        CreditTransfer x = new CreditTransfer();
        x.pass(60);
        for (int i = 0; i < 8; i++) {
            x.addEquivalence((char) ('A' + i), i % 2 == 0 ? ' ' : 'Z', 'a', i < 4 ? ' ' : 'b');
        }
        put(x, "[1:[1:a9,bc2]][2:[1:ab3>12],c1<0]");
        x.readProgram();
        x.save();
        x.addCredit('a', 3, 11, 60);
        x.addCredit('b', 2, 20, 59);
        x.addCredit('c', 1, 10, 60);
        x.addCredit('A', 12, 0, 0);
        x.addCredit('E', 5, 15, 7);
        x.addCredit('a', 6, 10, 60);
        put(x, "[2:a1,b1,[1:a1,c1]]d1<60>20e1f1g1h1i1j1k1l1m1n1o1p");
        return x;
    }

    /** The call fails, and the desk shows all that a desk shows on which it was not made. */
    final void failsAlike(Supplier<CreditTransfer> maker, Class<? extends RuntimeException> due,
            Function<CreditTransfer, Object> call) {
        CreditTransfer x = maker.get();
        check.fails(due, () -> call.apply(x));
        Shown other = new Shown(maker.get());
        showsAlike(new Shown(x), other, other.reason());
    }

    /** The call is refused, and the desk shows this reason, and else what one shows on which it was not made. */
    final void refuses(Supplier<CreditTransfer> maker, int reason, Function<CreditTransfer, Object> call) {
        CreditTransfer x = maker.get();
        check.fails(REFUSED, () -> call.apply(x));
        showsAlike(new Shown(x), new Shown(maker.get()), String.valueOf(reason));
    }

    private void showsAlike(Shown shown, Shown other, String reason) {
        check.equal(shown.desk(), other.desk());
        check.equal(shown.fault(), other.fault());
        check.equal(shown.reason(), reason);
        check.equal(Math.max(shown.calls(), other.calls()) <= Shown.MOST_CALLS, true);
    }

    final void readsTo(CreditTransfer x, String text, int blocks) {
        put(x, text);
        check.equal(x.readProgram(), blocks);
        check.equal(x.faultPosition(), -1);
    }

    final void hasFault(String text, int position) {
        CreditTransfer x = new CreditTransfer();
        put(x, text);
        check.fails(ARGUMENT, x::readProgram);
        check.equal(x.faultPosition(), position);
        check.fails(ELEMENT, x::refusal);
        check.equal(x.account(2), 0);
        check.fails(STATE, x::undo);
        readsTo(x, "a1", 1);
    }

    final void isRefused(String text, int reason) {
        CreditTransfer x = new CreditTransfer();
        put(x, text);
        check.fails(REFUSED, x::readProgram);
        check.equal(x.refusal(), reason);
        check.equal(x.faultPosition(), -1);
        check.equal(x.account(2), 0);
        check.fails(STATE, x::undo);
        readsTo(x, "a1", 1);
        check.equal(x.refusal(), reason);
    }

    final void isMetSet(CreditTransfer x, boolean... due) {
        for (int b = 0; b < due.length; b++) {
            check.equal(x.isMet(b), due[b]);
        }
    }

    final void takers(CreditTransfer x, int... due) {
        for (int i = 0; i < due.length; i++) {
            check.equal(x.credit(i, 3), due[i]);
        }
    }

    final void layersAre(CreditTransfer x, int block, int... due) {
        check.equal(x.layers(block), due.length / 2);
        for (int i = 0; i < due.length; i++) {
            check.equal(x.why(block, i / 2, i % 2), due[i]);
        }
        check.fails(ELEMENT, () -> x.why(block, due.length / 2, 0));
    }

    /** Each credit as its code, points, grade and year. */
    final void credits(CreditTransfer x, String... due) {
        check.equal(x.account(0), due.length);
        for (int i = 0; i < due.length; i++) {
            check.equal(x.code(i) + " " + x.credit(i, 0) + " " + x.credit(i, 1) + " " + x.credit(i, 2), due[i]);
        }
    }

    final void blockIs(CreditTransfer x, int block, int... due) {
        for (int what = 0; what < due.length; what++) {
            check.equal(x.block(block, what), due[what]);
        }
    }
}
