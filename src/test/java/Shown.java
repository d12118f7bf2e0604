import java.util.function.IntFunction;

/** All that a desk shows, as texts. To look to the end takes the desk apart: it is of no use then. */
final class Shown {
    /** So many calls a look takes at most; with those made before it stays an object's 512. */
    static final int MOST_CALLS = 400;

    private final CreditTransfer x;
    private final StringBuilder text = new StringBuilder();
    private final String fault;
    private final String reason;
    private int calls = 0;

    Shown(CreditTransfer x) {
        this.x = x;
        fault = answer(x::faultPosition);
        reason = answer(x::refusal);
        showSums();
        showCredits();
        showEquivalences();
        int blocks = account(2);
        for (int b = 0; b < blocks; b++) {
            showBlock(b);
        }
        showKept();
        showText();
    }

    /** The desk, the changes and the snapshot that are kept, and what the text buffer reads to. */
    String desk() {
        return text.toString();
    }

    String fault() {
        return fault;
    }

    String reason() {
        return reason;
    }

    int calls() {
        return calls;
    }

    private String answer(Check.Call call) {
        calls++;
        return Check.outcome(call);
    }

    private void show(String name, Check.Call call) {
        text.append(name).append('=').append(answer(call)).append(' ');
    }

    /** From index 0 on, up to the first one that is none. */
    private void showAll(String name, IntFunction<Object> call) {
        boolean isThere = true;
        for (int i = 0; i < 10 && isThere; i++) {
            int index = i;
            int before = text.length();
            show(name, () -> call.apply(index));
            isThere = text.indexOf("Exception", before) < 0;
        }
    }

    private int account(int what) {
        calls++;
        return x.account(what);
    }

    private void showSums() {
        showAccounts();
        show("complete", x::isComplete);
        show("mean", x::meanGrade);
        show("lapses", x::lapses);
        show("best", x::bestEquivalence);
    }

    private void showAccounts() {
        show("\nyear", x::year);
        for (int what = 0; what <= 9; what++) {
            int asked = what;
            show("account" + what, () -> x.account(asked));
        }
    }

    private void showCredits() {
        int credits = account(0);
        for (int i = 0; i < credits; i++) {
            int credit = i;
            show("\ncode" + i, () -> x.code(credit));
            for (int what = 0; what <= 4; what++) {
                int asked = what;
                show("credit" + what, () -> x.credit(credit, asked));
            }
        }
    }

    private void showEquivalences() {
        int equivalences = account(1);
        for (int i = 0; i < equivalences; i++) {
            int equivalence = i;
            show("\nroots" + i, () -> x.rootsBy(equivalence));
            for (int what = 0; what <= 3; what++) {
                int asked = what;
                show("letter" + what, () -> x.equivalent(equivalence, asked));
            }
        }
    }

    private void showBlock(int block) {
        text.append("\nblock ").append(block).append(' ');
        for (int what = 0; what <= 7; what++) {
            int asked = what;
            show("what" + what, () -> x.block(block, asked));
        }
        showAll("part", index -> x.part(block, index));
        showAll("sign", index -> x.letter(block, index));
        show("met", () -> x.isMet(block));
        show("points", () -> x.points(block));
        show("lacks", () -> x.lacks(block));
        showAll("kind", layer -> x.why(block, layer, 0));
        showAll("number", layer -> x.why(block, layer, 1));
    }

    private void showKept() {
        for (int i = 0; i <= 8; i++) {
            show("\nundo", x::undo);
            showAccounts();
        }
        show("\nrestore", () -> { x.restore(); return 0; });
        showAccounts();
    }

    private void showText() {
        show("\nread", x::readProgram);
        show("fault", x::faultPosition);
        showAccounts();
    }
}
