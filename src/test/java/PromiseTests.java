/** For each promise of the document: ordinary inputs, the edges that it names, and wrong inputs. */
final class PromiseTests extends DeskTests {
    private PromiseTests(Check check) {
        super(check);
    }

    static void runAll(Check check) {
        PromiseTests tests = new PromiseTests(check);
        tests.promises1To6();
        tests.promises7To11();
        tests.promises12To19();
        tests.promises20To27();
        tests.promises28To34();
    }

    private void promises1To6() {
        check.begin("promise 1");
        newObject();
        check.begin("promise 2");
        addCredit();
        addCreditRefused();
        check.begin("promise 3");
        dropCredit();
        check.begin("promise 4");
        credit();
        check.begin("promise 5");
        code();
        check.begin("promise 6");
        expires();
    }

    private void promises7To11() {
        check.begin("promise 7");
        addEquivalence();
        check.begin("promise 8");
        equivalent();
        check.begin("promise 9");
        apply();
        applyTakesTheRightCredits();
        applyRefused();
        check.begin("promise 10");
        rootsBy();
        check.begin("promise 11");
        bestEquivalence();
    }

    private void promises12To19() {
        check.begin("promise 12");
        append();
        check.begin("promise 13");
        readProgram();
        readProgramRefused();
        check.begin("promise 14");
        faultPosition();
        check.begin("promise 15");
        refusal();
        check.begin("promise 16");
        block();
        check.begin("promise 17");
        part();
        check.begin("promise 18");
        letter();
        check.begin("promise 19");
        accepts();
    }

    private void promises20To27() {
        check.begin("promise 20");
        isMet();
        bestUse();
        check.begin("promise 21");
        points();
        check.begin("promise 22");
        lacks();
        check.begin("promise 23");
        isComplete();
        check.begin("promise 24");
        rootsWith();
        check.begin("promise 25");
        lapses();
        check.begin("promise 26");
        layers();
        check.begin("promise 27");
        why();
        whyOfCredits();
    }

    private void promises28To34() {
        check.begin("promise 28");
        pass();
        check.begin("promise 29");
        year();
        check.begin("promise 30");
        account();
        check.begin("promise 31");
        meanGrade();
        check.begin("promise 32");
        undo();
        undoLeavesWhatIsNoDesk();
        check.begin("promise 33");
        save();
        check.begin("promise 34");
        restore();
    }

    private void newObject() {
        CreditTransfer x = new CreditTransfer();
        for (int what = 0; what <= 9; what++) {
            check.equal(x.account(what), 0);
        }
        check.equal(x.year(), 0);
        check.equal(x.faultPosition(), -1);
        check.equal(x.isComplete(), false);
        check.fails(ELEMENT, x::refusal);
        check.fails(STATE, x::undo);
        check.fails(STATE, () -> { x.restore(); return 0; });
        check.fails(INDEX, () -> x.code(0));
        check.fails(INDEX, () -> x.equivalent(0, 0));
        check.fails(INDEX, () -> x.block(0, 0));
    }

    private void addCredit() {
        CreditTransfer x = new CreditTransfer();
        x.pass(3);
        check.equal(x.addCredit('A', 1, 0, 0), 0);
        check.equal(x.addCredit('Z', 12, 20, 3), 1);
        check.equal(x.addCredit('a', 5, 9, 1), 2);
        check.equal(x.addCredit('z', 5, 10, 2), 3);
        check.equal(x.credit(1, 0), 12);
        check.equal(x.credit(1, 1), 20);
        check.equal(x.credit(1, 2), 3);
        char[] wrongCodes = {'@', '[', '`', '{', ' ', '0', 0, (char) 225, (char) 0x161, Character.MAX_VALUE};
        for (char c : wrongCodes) {
            check.fails(ARGUMENT, () -> x.addCredit(c, 5, 10, 0));
        }
        int[] wrongPoints = {0, 13, -1, Integer.MIN_VALUE, Integer.MAX_VALUE};
        for (int points : wrongPoints) {
            check.fails(ARGUMENT, () -> x.addCredit('a', points, 10, 0));
        }
        int[] wrongGrades = {-1, 21, Integer.MIN_VALUE, Integer.MAX_VALUE};
        for (int grade : wrongGrades) {
            check.fails(ARGUMENT, () -> x.addCredit('a', 5, grade, 0));
        }
        int[] wrongYears = {-1, 4, 61, Integer.MIN_VALUE, Integer.MAX_VALUE};
        for (int year : wrongYears) {
            check.fails(ARGUMENT, () -> x.addCredit('a', 5, 10, year));
        }
        check.equal(x.account(0), 4);
        check.fails(ELEMENT, x::refusal);
    }

    private void addCreditRefused() {
        CreditTransfer x = new CreditTransfer();
        for (int i = 0; i < 6; i++) {
            check.equal(x.addCredit('a', 1, 10, 0), i);
        }
        check.fails(ARGUMENT, () -> x.addCredit('a', 0, 10, 0));
        check.fails(ELEMENT, x::refusal);
        check.fails(REFUSED, () -> x.addCredit('a', 1, 10, 0));
        check.equal(x.refusal(), 1);
        check.equal(x.account(0), 6);
        check.equal(x.undo(), 5);
        check.equal(x.addCredit('b', 2, 11, 0), 5);
        check.equal(x.code(5), 'b');
    }

    private void dropCredit() {
        CreditTransfer x = new CreditTransfer();
        for (int wrong : WRONG_INDICES) {
            check.fails(INDEX, () -> x.dropCredit(wrong));
        }
        x.addCredit('a', 1, 10, 0);
        x.addCredit('b', 2, 11, 0);
        x.addCredit('c', 3, 12, 0);
        check.fails(INDEX, () -> x.dropCredit(3));
        check.fails(INDEX, () -> x.dropCredit(-1));
        check.equal(x.dropCredit(1), 2);
        check.equal(x.code(0), 'a');
        check.equal(x.code(1), 'c');
        check.equal(x.credit(1, 0), 3);
        check.fails(INDEX, () -> x.code(2));
        check.equal(x.dropCredit(1), 1);
        check.equal(x.dropCredit(0), 0);
        check.fails(INDEX, () -> x.dropCredit(0));
    }

    private void credit() {
        CreditTransfer x = desk("[1:ab5]c4");
        x.pass(2);
        x.addCredit('a', 7, 12, 1);
        x.addCredit('B', 3, 19, 2);
        check.equal(x.credit(0, 0), 7);
        check.equal(x.credit(0, 1), 12);
        check.equal(x.credit(0, 2), 1);
        check.equal(x.credit(0, 3), 1);
        check.equal(x.credit(0, 4), 2);
        check.equal(x.credit(1, 3), -1);
        check.equal(x.credit(1, 4), 0);
        for (int wrong : WRONG_INDICES) {
            check.fails(INDEX, () -> x.credit(wrong, 0));
            check.fails(INDEX, () -> x.credit(wrong, 5));
        }
        check.fails(INDEX, () -> x.credit(2, -1));
        check.fails(ARGUMENT, () -> x.credit(1, 5));
        check.fails(ARGUMENT, () -> x.credit(1, -1));
        check.fails(ARGUMENT, () -> x.credit(1, Integer.MAX_VALUE));
        readsTo(x, "[1:a1,ab1<0][1:ac1,abc1>12]", 6);
        check.equal(x.credit(0, 4), 1 << 1 | 1 << 4 | 1 << 5);
    }

    private void code() {
        CreditTransfer x = new CreditTransfer();
        check.fails(INDEX, () -> x.code(0));
        x.addCredit('Q', 1, 10, 0);
        x.addCredit('q', 1, 10, 0);
        check.equal(x.code(0), 'Q');
        check.equal(x.code(1), 'q');
        check.fails(INDEX, () -> x.code(2));
        check.fails(INDEX, () -> x.code(-1));
    }

    private void expires() {
        CreditTransfer x = desk("[1:a1<5]b1bc1<60");
        x.pass(3);
        x.addCredit('A', 1, 0, 2);
        x.addCredit('a', 1, 0, 0);
        check.equal(x.expires(0, 1), 7);
        check.equal(x.expires(1, 1), 5);
        check.equal(x.expires(0, 2), 60);
        check.equal(x.expires(1, 2), 60);
        check.equal(x.expires(0, 3), 60);
        check.fails(STATE, () -> x.expires(0, 0));
        check.fails(INDEX, () -> x.expires(2, 0));
        check.fails(INDEX, () -> x.expires(-1, 1));
        check.fails(INDEX, () -> x.expires(0, 4));
        check.fails(INDEX, () -> x.expires(0, -1));
    }

    private void addEquivalence() {
        CreditTransfer x = new CreditTransfer();
        check.equal(x.addEquivalence('A', ' ', 'a', ' '), 0);
        check.equal(x.addEquivalence('Z', 'A', 'z', 'a'), 1);
        check.fails(ARGUMENT, () -> x.addEquivalence('a', ' ', 'a', ' '));
        check.fails(ARGUMENT, () -> x.addEquivalence(' ', 'A', 'a', ' '));
        check.fails(ARGUMENT, () -> x.addEquivalence(' ', ' ', 'a', ' '));
        check.fails(ARGUMENT, () -> x.addEquivalence('A', 'b', 'a', ' '));
        check.fails(ARGUMENT, () -> x.addEquivalence('A', 'A', 'a', ' '));
        check.fails(ARGUMENT, () -> x.addEquivalence('A', '@', 'a', ' '));
        check.fails(ARGUMENT, () -> x.addEquivalence('A', '[', 'a', ' '));
        check.fails(ARGUMENT, () -> x.addEquivalence('A', (char) 0, 'a', ' '));
        check.fails(ARGUMENT, () -> x.addEquivalence('A', ' ', 'A', ' '));
        check.fails(ARGUMENT, () -> x.addEquivalence('A', ' ', ' ', 'a'));
        check.fails(ARGUMENT, () -> x.addEquivalence('A', ' ', ' ', ' '));
        check.fails(ARGUMENT, () -> x.addEquivalence('A', ' ', 'a', 'B'));
        check.fails(ARGUMENT, () -> x.addEquivalence('A', ' ', 'a', 'a'));
        check.fails(ARGUMENT, () -> x.addEquivalence('A', ' ', 'a', '`'));
        check.fails(ARGUMENT, () -> x.addEquivalence('A', ' ', 'a', '{'));
        check.equal(x.account(1), 2);
        for (int i = 2; i < 8; i++) {
            check.equal(x.addEquivalence('A', ' ', 'a', ' '), i);
        }
        check.fails(STATE, () -> x.addEquivalence('A', ' ', 'a', ' '));
        check.fails(ARGUMENT, () -> x.addEquivalence('A', 'A', 'a', ' '));
        check.equal(x.account(1), 8);
        check.fails(ELEMENT, x::refusal);
        check.equal(x.undo(), 7);
        check.equal(x.addEquivalence('B', ' ', 'b', ' '), 7);
    }

    private void equivalent() {
        CreditTransfer x = new CreditTransfer();
        check.fails(INDEX, () -> x.equivalent(0, 4));
        x.addEquivalence('A', 'B', 'c', 'd');
        x.addEquivalence('X', ' ', 'y', ' ');
        check.equal(x.equivalent(0, 0), 'A');
        check.equal(x.equivalent(0, 1), 'B');
        check.equal(x.equivalent(0, 2), 'c');
        check.equal(x.equivalent(0, 3), 'd');
        check.equal(x.equivalent(1, 0), 'X');
        check.equal(x.equivalent(1, 1), ' ');
        check.equal(x.equivalent(1, 2), 'y');
        check.equal(x.equivalent(1, 3), ' ');
        check.fails(ARGUMENT, () -> x.equivalent(1, 4));
        check.fails(ARGUMENT, () -> x.equivalent(1, -1));
        check.fails(INDEX, () -> x.equivalent(2, 0));
        check.fails(INDEX, () -> x.equivalent(-1, 0));
    }

    private void apply() {
        CreditTransfer x = new CreditTransfer();
        x.pass(9);
        x.addCredit('A', 5, 12, 7);
        x.addCredit('z', 1, 10, 0);
        x.addCredit('B', 4, 15, 4);
        x.addCredit('y', 2, 10, 0);
        x.addEquivalence('B', 'A', 'b', 'a');
        x.addEquivalence('A', ' ', 'c', ' ');
        x.addEquivalence('A', ' ', 'd', 'e');
        x.addEquivalence('A', 'B', 'f', ' ');
        check.equal(x.apply(0), 2);
        credits(x, "z 1 10 0", "y 2 10 0", "b 5 12 4", "a 4 12 4");
        x.undo();
        check.equal(x.apply(1), 1);
        credits(x, "z 1 10 0", "B 4 15 4", "y 2 10 0", "c 5 12 7");
        x.undo();
        check.equal(x.apply(2), 2);
        credits(x, "z 1 10 0", "B 4 15 4", "y 2 10 0", "d 3 12 7", "e 2 12 7");
        x.undo();
        check.equal(x.apply(3), 1);
        credits(x, "z 1 10 0", "y 2 10 0", "f 9 12 4");
    }

    private void applyTakesTheRightCredits() {
        CreditTransfer x = new CreditTransfer();
        x.addCredit('A', 12, 9, 0);
        x.addCredit('A', 6, 10, 0);
        x.addCredit('A', 7, 20, 0);
        x.addCredit('A', 7, 11, 0);
        x.addCredit('B', 1, 10, 0);
        x.addEquivalence('A', ' ', 'a', ' ');
        x.addEquivalence('B', ' ', 'b', 'c');
        check.equal(x.apply(0), 1);
        credits(x, "A 12 9 0", "A 6 10 0", "A 7 11 0", "B 1 10 0", "a 7 20 0");
        check.equal(x.apply(1), 2);
        credits(x, "A 12 9 0", "A 6 10 0", "A 7 11 0", "a 7 20 0", "b 1 10 0", "c 0 10 0");
        CreditTransfer y = new CreditTransfer();
        y.addCredit('A', 12, 10, 0);
        y.addCredit('B', 12, 20, 0);
        y.addEquivalence('A', 'B', 'a', ' ');
        check.equal(y.apply(0), 1);
        credits(y, "a 24 10 0");
    }

    private void applyRefused() {
        CreditTransfer x = new CreditTransfer();
        check.fails(INDEX, () -> x.apply(0));
        x.addEquivalence('A', ' ', 'a', 'b');
        x.addEquivalence('A', 'B', 'a', 'b');
        x.addEquivalence('A', ' ', 'a', ' ');
        check.fails(INDEX, () -> x.apply(3));
        check.fails(INDEX, () -> x.apply(-1));
        check.fails(ELEMENT, x::refusal);
        check.fails(REFUSED, () -> x.apply(0));
        check.equal(x.refusal(), 2);
        x.addCredit('A', 5, 10, 0);
        x.addCredit('B', 5, 9, 0);
        check.fails(REFUSED, () -> x.apply(1));
        check.equal(x.refusal(), 2);
        for (int i = 0; i < 4; i++) {
            x.addCredit('z', 1, 10, 0);
        }
        check.fails(REFUSED, () -> x.apply(0));
        check.equal(x.refusal(), 1);
        check.fails(REFUSED, () -> x.apply(1));
        check.equal(x.refusal(), 2);
        check.equal(x.account(0), 6);
        check.equal(x.apply(2), 1);
        check.equal(x.account(0), 6);
        check.equal(x.refusal(), 2);
        x.dropCredit(1);
        x.addCredit('A', 1, 10, 0);
        x.dropCredit(0);
        check.equal(x.apply(0), 2);
        check.equal(x.account(0), 6);
    }

    private void rootsBy() {
        CreditTransfer x = desk("a5b5");
        check.fails(INDEX, () -> x.rootsBy(0));
        x.addEquivalence('A', ' ', 'a', 'b');
        x.addEquivalence('B', ' ', 'a', ' ');
        x.addEquivalence('A', ' ', 'c', ' ');
        check.fails(ELEMENT, () -> x.rootsBy(0));
        x.addCredit('A', 10, 10, 0);
        x.addCredit('b', 5, 10, 0);
        check.equal(x.rootsBy(0), 2);
        check.equal(x.rootsBy(2), 1);
        check.fails(ELEMENT, () -> x.rootsBy(1));
        check.fails(INDEX, () -> x.rootsBy(3));
        check.fails(INDEX, () -> x.rootsBy(-1));
        check.equal(x.account(0), 2);
        check.equal(x.account(5), 1);
        for (int i = 0; i < 4; i++) {
            x.addCredit('z', 1, 10, 0);
        }
        check.fails(ELEMENT, () -> x.rootsBy(0));
        check.equal(x.rootsBy(2), 1);
        check.fails(ELEMENT, x::refusal);
    }

    private void bestEquivalence() {
        CreditTransfer x = desk("a5b5");
        check.fails(ELEMENT, x::bestEquivalence);
        x.addEquivalence('B', ' ', 'b', ' ');
        check.fails(ELEMENT, x::bestEquivalence);
        x.addEquivalence('A', ' ', 'c', ' ');
        x.addEquivalence('A', ' ', 'a', ' ');
        x.addEquivalence('A', ' ', 'b', ' ');
        x.addCredit('A', 10, 10, 0);
        check.equal(x.bestEquivalence(), 2);
        x.addEquivalence('A', ' ', 'a', 'b');
        check.equal(x.bestEquivalence(), 4);
        x.dropCredit(0);
        x.addCredit('A', 4, 10, 0);
        check.equal(x.bestEquivalence(), 1);
        x.addCredit('B', 5, 10, 0);
        check.equal(x.bestEquivalence(), 0);
        check.fails(ELEMENT, x::refusal);
    }

    private void append() {
        CreditTransfer x = new CreditTransfer();
        for (int i = 0; i < 50; i++) {
            x.append(i == 0 ? 'a' : (char) (i * 1311));
        }
        check.fails(STATE, () -> { x.append('a'); return 0; });
        check.fails(ARGUMENT, x::readProgram);
        check.equal(x.faultPosition(), 1);
        readsTo(x, "a1", 1);
        put(x, "a1b1c1d1a1b1c1d1a1b1c1d1a1b1c1d1a1b1c1d1a1b1c1d1a1");
        check.fails(STATE, () -> { x.append('a'); return 0; });
        check.fails(REFUSED, x::readProgram);
        check.equal(x.refusal(), 4);
        check.equal(x.account(2), 1);
    }

    private void readProgram() {
        CreditTransfer x = new CreditTransfer();
        readsTo(x, "a1", 1);
        readsTo(x, "abcde30<60>20", 1);
        readsTo(x, "edcba10<0>10", 1);
        readsTo(x, "[1:a1]", 2);
        readsTo(x, "[1:[1:[1:a1],b1],c1]d1", 7);
        readsTo(x, "a1a1a1a1", 4);
        readsTo(x, "[2:a1<3,b2>11][1:[1:c12]][1:d1]", 8);
        check.equal(x.account(3), 4);
        check.equal(x.account(4), 3);
        check.equal(x.undo(), 6);
        check.equal(x.account(2), 4);
    }

    private void readProgramRefused() {
        isRefused("a0", 3);
        isRefused("a31", 3);
        isRefused("a99", 3);
        isRefused("a1<61", 3);
        isRefused("a1>9", 3);
        isRefused("a1>21", 3);
        isRefused("a1>0", 3);
        isRefused("a1<0>0", 3);
        isRefused("a1a1a1a1a1", 4);
        isRefused("[1:a1,a1,a1,a1,a1]", 4);
        isRefused("[1:[1:a1]][1:[1:a1]][1:[1:a1]]", 4);
        isRefused("[2:a1]", 5);
        isRefused("a1[1:[3:a1,b1]]", 5);
        isRefused("[9:a1,b1,c1,d1]", 5);
        isRefused("[2:a1]a1a1a1a1", 4);
        isRefused("[2:a1]a1a1a1a1b0", 3);
        isRefused("a1a1a1a1a1a1a1a1a1a1a1a1a31", 3);
        isRefused("[2:a31]", 3);
        CreditTransfer x = new CreditTransfer();
        readsTo(x, "[4:a1,b1,c1,d1]", 5);
        readsTo(x, "[1:[1:a1]][1:[1:b1]]c1d1", 8);
    }

    private void faultPosition() {
        CreditTransfer x = new CreditTransfer();
        check.equal(x.faultPosition(), -1);
        put(x, "a");
        check.equal(x.faultPosition(), -1);
        hasFault("", 0);
        hasFault("1", 0);
        hasFault("A1", 0);
        hasFault(" a1", 0);
        hasFault("\0", 0);
        hasFault("]", 0);
        hasFault("a", 1);
        hasFault("aa1", 1);
        hasFault("abca1", 3);
        hasFault("abcdef1", 5);
        hasFault("abcdea1", 5);
        hasFault("abcde", 5);
        hasFault("a<1", 1);
        hasFault("aB1", 1);
        hasFault("a01", 2);
        hasFault("a00", 2);
        hasFault("a123", 3);
        hasFault("a1<", 3);
        hasFault("a1<>10", 3);
        hasFault("a1<123", 5);
        hasFault("a1<01", 4);
        hasFault("a1<1<1", 4);
        hasFault("a1>", 3);
        hasFault("a1>a", 3);
        hasFault("a1>10<5", 5);
        hasFault("a1>100", 5);
        hasFault("a1>10>10", 5);
        hasFault("a1,b1", 2);
        hasFault("a1]", 2);
        hasFault("a1 ", 2);
        hasFault("a1\0", 2);
        hasFault("[", 1);
        hasFault("[0:a1]", 1);
        hasFault("[a1]", 1);
        hasFault("[1", 2);
        hasFault("[10:a1]", 2);
        hasFault("[1:", 3);
        hasFault("[1:]", 3);
        hasFault("[1:a1", 5);
        hasFault("[1:a1b1]", 5);
        hasFault("[1:a1,", 6);
        hasFault("[1:a1,]", 6);
        hasFault("[1:a1[1:b1]]", 5);
        hasFault("[1:a1]]", 6);
        hasFault("[1:a1],b1", 6);
        hasFault("[1:[1:a1]b1]", 9);
        hasFault("[1:[1:[1:[1:a1]]]]", 9);
        hasFault("[1:[1:[1:a1,[", 12);
        hasFault("[1:[1:[1:a1]],[1:[1:[", 20);
        hasFault("[1:[1:[1:a1]", 12);
        hasFault("a31;", 3);
        readsTo(x, "1", 1);
        put(x, "a1b");
        check.fails(ARGUMENT, x::readProgram);
        check.equal(x.faultPosition(), 3);
        check.equal(x.account(2), 1);
        put(x, "a0");
        check.fails(REFUSED, x::readProgram);
        check.equal(x.faultPosition(), -1);
    }

    private void refusal() {
        CreditTransfer x = new CreditTransfer();
        check.fails(ELEMENT, x::refusal);
        put(x, "a0");
        check.fails(REFUSED, x::readProgram);
        check.equal(x.refusal(), 3);
        put(x, "[2:a1]");
        check.fails(REFUSED, x::readProgram);
        check.equal(x.refusal(), 5);
        check.equal(x.refusal(), 5);
        put(x, "a");
        check.fails(ARGUMENT, x::readProgram);
        check.equal(x.refusal(), 5);
        x.addEquivalence('A', ' ', 'a', ' ');
        check.equal(x.refusal(), 5);
        check.fails(ELEMENT, () -> x.rootsBy(0));
        check.fails(ELEMENT, x::bestEquivalence);
        check.equal(x.refusal(), 5);
        check.fails(REFUSED, () -> x.apply(0));
        check.equal(x.refusal(), 2);
        for (int i = 0; i < 6; i++) {
            x.addCredit('a', 1, 10, 0);
        }
        check.fails(STATE, () -> x.rootsWith('a', 1, 10, 0));
        check.equal(x.refusal(), 2);
        check.fails(REFUSED, () -> x.addCredit('a', 1, 10, 0));
        check.equal(x.refusal(), 1);
        put(x, "a1a1a1a1a1");
        check.fails(REFUSED, x::readProgram);
        check.equal(x.refusal(), 4);
    }

    private void block() {
        CreditTransfer x = new CreditTransfer();
        check.fails(INDEX, () -> x.block(0, 0));
        readsTo(x, "[2:abc10<5,[1:[1:d3>12]],e7]fa6", 7);
        blockIs(x, 0, 1, -1, 3, 2, -1, -1, 0, 0);
        blockIs(x, 1, 0, 0, 0, 10, 5, 10, 3, 1);
        blockIs(x, 2, 1, 0, 1, 1, -1, -1, 0, 1);
        blockIs(x, 3, 1, 2, 1, 1, -1, -1, 0, 2);
        blockIs(x, 4, 0, 3, 0, 3, 60, 12, 1, 3);
        blockIs(x, 5, 0, 0, 0, 7, 60, 10, 1, 1);
        blockIs(x, 6, 0, -1, 0, 6, 60, 10, 2, 0);
        check.fails(ARGUMENT, () -> x.block(0, 8));
        check.fails(ARGUMENT, () -> x.block(0, -1));
        check.fails(INDEX, () -> x.block(x.account(2), 8));
        check.fails(INDEX, () -> x.block(-1, 0));
        check.fails(INDEX, () -> x.block(Integer.MAX_VALUE, 0));
    }

    private void part() {
        CreditTransfer x = desk("a1[1:[1:b1],[1:c1,d1]]");
        check.equal(x.part(1, 0), 2);
        check.equal(x.part(1, 1), 4);
        check.equal(x.part(2, 0), 3);
        check.equal(x.part(4, 0), 5);
        check.equal(x.part(4, 1), 6);
        check.fails(ELEMENT, () -> x.part(1, 2));
        check.fails(ELEMENT, () -> x.part(1, -1));
        check.fails(ELEMENT, () -> x.part(2, 1));
        check.fails(ELEMENT, () -> x.part(0, 0));
        check.fails(ELEMENT, () -> x.part(4, Integer.MIN_VALUE));
        check.fails(INDEX, () -> x.part(7, 0));
        check.fails(INDEX, () -> x.part(-1, 0));
    }

    private void letter() {
        CreditTransfer x = desk("[1:zmabc1]");
        check.equal(x.letter(1, 0), 'z');
        check.equal(x.letter(1, 1), 'm');
        check.equal(x.letter(1, 4), 'c');
        check.fails(ELEMENT, () -> x.letter(1, 5));
        check.fails(ELEMENT, () -> x.letter(1, -1));
        check.fails(ELEMENT, () -> x.letter(0, 0));
        check.fails(INDEX, () -> x.letter(2, 0));
        check.fails(INDEX, () -> x.letter(-1, 0));
    }

    private void accepts() {
        CreditTransfer x = desk("[1:ab1<2>12]");
        x.pass(4);
        x.addCredit('a', 1, 12, 2);
        x.addCredit('b', 1, 11, 4);
        x.addCredit('b', 1, 20, 1);
        x.addCredit('c', 1, 20, 4);
        x.addCredit('A', 1, 20, 4);
        check.equal(x.accepts(1, 0), true);
        check.equal(x.accepts(1, 1), false);
        check.equal(x.accepts(1, 2), false);
        check.equal(x.accepts(1, 3), false);
        check.equal(x.accepts(1, 4), false);
        check.equal(x.accepts(0, 0), false);
        x.pass(1);
        check.equal(x.accepts(1, 0), false);
        check.fails(INDEX, () -> x.accepts(2, 0));
        check.fails(INDEX, () -> x.accepts(-1, 0));
        check.fails(INDEX, () -> x.accepts(1, 5));
        check.fails(INDEX, () -> x.accepts(1, -1));
    }

    private void isMet() {
        CreditTransfer x = new CreditTransfer();
        check.fails(INDEX, () -> x.isMet(0));
        readsTo(x, "[2:a5,b5,[1:c5]]d1", 6);
        isMetSet(x, false, false, false, false, false, false);
        x.addCredit('a', 4, 10, 0);
        x.addCredit('c', 5, 10, 0);
        isMetSet(x, false, false, false, true, true, false);
        x.addCredit('a', 1, 10, 0);
        isMetSet(x, true, true, false, true, true, false);
        check.fails(INDEX, () -> x.isMet(6));
        check.fails(INDEX, () -> x.isMet(-1));
    }

    private void bestUse() {
        // The most roots go before the most leaves.
        CreditTransfer roots = desk("[2:a2,a2]a4");
        roots.addCredit('a', 2, 10, 0);
        roots.addCredit('a', 2, 10, 0);
        isMetSet(roots, true, true, true, false);
        takers(roots, 1, 2);
        CreditTransfer leaves = desk("[3:a2,a2,b1]a4");
        leaves.addCredit('a', 2, 10, 0);
        leaves.addCredit('a', 2, 10, 0);
        isMetSet(leaves, false, false, false, false, true);
        takers(leaves, 4, 4);
        // Of those with as many roots, the most leaves.
        CreditTransfer most = desk("[1:a4,[2:a2,ab2]]");
        most.addCredit('a', 2, 10, 0);
        most.addCredit('a', 2, 10, 0);
        isMetSet(most, true, false, true, true, true);
        takers(most, 3, 4);
        // Then the fewest points, so that a credit that is not needed is given to none.
        CreditTransfer fewest = desk("a5");
        fewest.addCredit('a', 7, 10, 0);
        fewest.addCredit('a', 5, 10, 0);
        fewest.addCredit('a', 6, 10, 0);
        takers(fewest, -1, 0, -1);
        CreditTransfer unmet = desk("a9");
        unmet.addCredit('a', 7, 10, 0);
        takers(unmet, -1);
        // Then the first credit to the lowest leaf, and none last.
        CreditTransfer first = desk("a5ab5");
        first.addCredit('b', 5, 10, 0);
        first.addCredit('a', 5, 10, 0);
        first.addCredit('a', 5, 10, 0);
        takers(first, 1, 0, -1);
        // A credit of no points goes to the lowest leaf that accepts it.
        CreditTransfer none = desk("c5bc1ba30");
        none.addCredit('A', 1, 10, 0);
        none.addEquivalence('A', ' ', 'a', 'b');
        none.apply(0);
        takers(none, -1, 1);
        check.equal(none.points(1), 0);
    }

    private void points() {
        CreditTransfer x = desk("[1:[2:a5,b3],c4]ad2");
        check.fails(INDEX, () -> x.points(6));
        check.fails(INDEX, () -> x.points(-1));
        x.addCredit('a', 6, 10, 0);
        x.addCredit('b', 3, 10, 0);
        x.addCredit('c', 12, 10, 0);
        x.addCredit('d', 7, 10, 0);
        int[] due = {21, 9, 6, 3, 12, 7};
        for (int b = 0; b < due.length; b++) {
            check.equal(x.points(b), due[b]);
        }
        CreditTransfer deep = desk("[1:[1:[1:a5]]]");
        deep.addCredit('a', 5, 10, 0);
        for (int b = 0; b < 4; b++) {
            check.equal(deep.points(b), 5);
        }
        x.dropCredit(1);
        int[] then = {18, 6, 6, 0, 12, 7};
        for (int b = 0; b < then.length; b++) {
            check.equal(x.points(b), then[b]);
        }
    }

    private void lacks() {
        CreditTransfer x = desk("[1:a5]b9bc3");
        check.equal(x.lacks(1), 5);
        x.addCredit('a', 6, 10, 0);
        x.addCredit('b', 4, 10, 0);
        check.equal(x.lacks(1), 0);
        check.equal(x.lacks(2), 9);
        check.equal(x.lacks(3), 0);
        check.fails(STATE, () -> x.lacks(0));
        check.fails(INDEX, () -> x.lacks(4));
        check.fails(INDEX, () -> x.lacks(-1));
        // Fewer points are better, so that a leaf that is not met gets none of those that it could.
        x.addCredit('c', 2, 10, 0);
        check.equal(x.lacks(2), 9);
    }

    private void isComplete() {
        CreditTransfer x = new CreditTransfer();
        x.addCredit('a', 5, 10, 0);
        check.equal(x.isComplete(), false);
        readsTo(x, "[1:a5,b5]", 3);
        check.equal(x.isComplete(), true);
        readsTo(x, "[1:a5,b5]c1", 4);
        check.equal(x.isComplete(), false);
        x.addCredit('c', 1, 10, 0);
        check.equal(x.isComplete(), true);
    }

    private void rootsWith() {
        CreditTransfer x = desk("a5b5c1");
        x.pass(2);
        x.addCredit('a', 5, 10, 0);
        check.equal(x.rootsWith('b', 5, 10, 2), 2);
        check.equal(x.rootsWith('b', 4, 10, 2), 1);
        check.equal(x.rootsWith('b', 5, 9, 0), 1);
        check.equal(x.rootsWith('B', 5, 10, 0), 1);
        check.equal(x.account(0), 1);
        check.fails(ARGUMENT, () -> x.rootsWith('1', 5, 10, 0));
        check.fails(ARGUMENT, () -> x.rootsWith('b', 0, 10, 0));
        check.fails(ARGUMENT, () -> x.rootsWith('b', 13, 10, 0));
        check.fails(ARGUMENT, () -> x.rootsWith('b', 5, -1, 0));
        check.fails(ARGUMENT, () -> x.rootsWith('b', 5, 21, 0));
        check.fails(ARGUMENT, () -> x.rootsWith('b', 5, 10, 3));
        check.fails(ARGUMENT, () -> x.rootsWith('b', 5, 10, -1));
        for (int i = 0; i < 5; i++) {
            x.addCredit('z', 5, 10, 0);
        }
        check.fails(STATE, () -> x.rootsWith('b', 5, 10, 0));
        check.fails(ARGUMENT, () -> x.rootsWith('b', 5, 10, 3));
        check.fails(ELEMENT, x::refusal);
    }

    private void lapses() {
        CreditTransfer x = new CreditTransfer();
        check.fails(ELEMENT, x::lapses);
        readsTo(x, "a5<3b5<1c5", 3);
        check.fails(ELEMENT, x::lapses);
        x.pass(2);
        x.addCredit('a', 5, 10, 1);
        x.addCredit('c', 5, 10, 0);
        check.equal(x.lapses(), 5);
        x.addCredit('b', 5, 10, 2);
        check.equal(x.lapses(), 4);
        x.addCredit('b', 5, 10, 0);
        check.equal(x.lapses(), 4);
        check.equal(x.year(), 2);
        x.pass(2);
        check.equal(x.lapses(), 5);
        x.pass(1);
        check.fails(ELEMENT, x::lapses);
        readsTo(x, "c5<59", 1);
        check.equal(x.lapses(), 60);
        readsTo(x, "c5<60", 1);
        check.fails(ELEMENT, x::lapses);
        readsTo(x, "[1:a5<10,c5<20]", 3);
        check.equal(x.lapses(), 21);
        x.pass(55);
        check.equal(x.year(), 60);
        check.fails(ELEMENT, x::lapses);
    }

    private void layers() {
        CreditTransfer x = desk("[1:[1:[1:a5]]]b5");
        check.equal(x.layers(0), 4);
        check.equal(x.layers(3), 1);
        check.equal(x.layers(4), 1);
        x.addCredit('a', 4, 10, 0);
        check.equal(x.layers(0), 5);
        check.equal(x.layers(1), 4);
        check.equal(x.layers(2), 3);
        check.equal(x.layers(3), 2);
        check.equal(x.layers(4), 1);
        x.addCredit('a', 1, 10, 0);
        check.equal(x.layers(0), 0);
        check.equal(x.layers(3), 0);
        check.fails(INDEX, () -> x.layers(5));
        check.fails(INDEX, () -> x.layers(-1));
    }

    private void why() {
        CreditTransfer x = desk("[3:a5,[1:b5,c5],d5]");
        x.addCredit('a', 5, 10, 0);
        x.addCredit('d', 5, 10, 0);
        layersAre(x, 0, 1, 2, 1, 0, 2, 5);
        layersAre(x, 2, 1, 0, 2, 5);
        layersAre(x, 4, 2, 5);
        layersAre(x, 1);
        check.fails(ELEMENT, () -> x.why(0, -1, 2));
        check.fails(ELEMENT, () -> x.why(0, 3, 2));
        check.fails(ARGUMENT, () -> x.why(0, 2, 2));
        check.fails(ARGUMENT, () -> x.why(0, 0, -1));
        check.fails(INDEX, () -> x.why(6, 0, 2));
        check.fails(INDEX, () -> x.why(-1, 9, 2));
        check.fails(ELEMENT, () -> x.why(1, 0, 2));
        x.addCredit('b', 2, 10, 0);
        layersAre(x, 0, 1, 2, 1, 0, 2, 5, 6, 2);
    }

    private void whyOfCredits() {
        CreditTransfer x = desk("ab9<1>12b3");
        x.pass(5);
        x.addCredit('z', 9, 20, 5);
        x.addCredit('a', 4, 11, 0);
        layersAre(x, 0, 2, 9, 3, 1);
        x.dropCredit(1);
        x.addCredit('a', 4, 12, 3);
        layersAre(x, 0, 2, 9, 4, 1);
        x.dropCredit(1);
        x.addCredit('b', 4, 12, 4);
        layersAre(x, 0, 2, 9, 5, 1);
        x.dropCredit(1);
        x.addCredit('b', 2, 12, 4);
        layersAre(x, 0, 2, 9, 6, 1);
        layersAre(x, 1, 2, 3, 6, 1);
        // A credit that is too low or too old comes before that another leaf gets it.
        x.dropCredit(1);
        x.addCredit('b', 4, 11, 0);
        layersAre(x, 0, 2, 9, 3, 1);
        x.dropCredit(1);
        x.addCredit('b', 4, 12, 0);
        layersAre(x, 0, 2, 9, 4, 1);
        // A credit of no points is got by the leaf that is not met: the next one tells why.
        CreditTransfer y = desk("bc9");
        y.addCredit('A', 1, 10, 0);
        y.addCredit('c', 8, 10, 0);
        y.addEquivalence('A', ' ', 'a', 'b');
        y.apply(0);
        takers(y, -1, -1, 0);
        layersAre(y, 0, 2, 9, 6, 0);
        y.dropCredit(0);
        layersAre(y, 0, 2, 9);
    }

    private void pass() {
        CreditTransfer x = new CreditTransfer();
        check.equal(x.pass(0), 0);
        check.equal(x.pass(7), 7);
        check.fails(ARGUMENT, () -> x.pass(-1));
        check.fails(ARGUMENT, () -> x.pass(54));
        check.fails(ARGUMENT, () -> x.pass(Integer.MAX_VALUE));
        check.fails(ARGUMENT, () -> x.pass(Integer.MIN_VALUE));
        check.equal(x.pass(53), 60);
        check.fails(ARGUMENT, () -> x.pass(1));
        check.equal(x.pass(0), 60);
        check.equal(x.undo(), 3);
        check.equal(x.undo(), 2);
        check.equal(x.undo(), 1);
        check.equal(x.year(), 0);
    }

    private void year() {
        CreditTransfer x = new CreditTransfer();
        check.equal(x.year(), 0);
        x.pass(12);
        check.equal(x.year(), 12);
        x.pass(0);
        x.pass(1);
        check.equal(x.year(), 13);
        x.undo();
        check.equal(x.year(), 12);
    }

    private void account() {
        CreditTransfer x = desk("[1:a5,b5][1:c9]d2");
        x.addEquivalence('A', ' ', 'a', ' ');
        x.addEquivalence('A', ' ', 'b', ' ');
        x.addCredit('a', 6, 10, 0);
        x.addCredit('c', 8, 10, 0);
        x.addCredit('b', 5, 10, 0);
        x.addCredit('A', 12, 10, 0);
        x.addCredit('d', 3, 10, 0);
        int[] due = {5, 2, 6, 4, 3, 2, 3, 14, 34, 2};
        for (int what = 0; what < due.length; what++) {
            check.equal(x.account(what), due[what]);
        }
        check.fails(ARGUMENT, () -> x.account(-1));
        check.fails(ARGUMENT, () -> x.account(10));
        check.fails(ARGUMENT, () -> x.account(Integer.MIN_VALUE));
    }

    private void meanGrade() {
        CreditTransfer x = desk("a5b5c5");
        check.fails(ARITHMETIC, x::meanGrade);
        x.addCredit('a', 6, 11, 0);
        x.addCredit('A', 12, 20, 0);
        x.addCredit('b', 4, 20, 0);
        check.equal(x.meanGrade(), 11.0);
        x.addCredit('c', 5, 14, 0);
        check.equal(x.meanGrade(), (double) (6 * 11 + 5 * 14) / (double) 11);
        CreditTransfer least = desk("a1");
        least.addCredit('a', 1, 17, 0);
        check.equal(least.meanGrade(), 17.0);
        CreditTransfer y = desk("b1");
        y.addCredit('A', 1, 10, 0);
        y.addEquivalence('A', ' ', 'a', 'b');
        y.apply(0);
        check.equal(y.account(9), 1);
        check.fails(ARITHMETIC, y::meanGrade);
    }

    private void undo() {
        CreditTransfer x = new CreditTransfer();
        check.fails(STATE, x::undo);
        x.addCredit('A', 5, 10, 0);
        x.addEquivalence('A', ' ', 'a', ' ');
        readsTo(x, "a5", 1);
        x.pass(3);
        x.apply(0);
        x.dropCredit(0);
        check.equal(x.undo(), 5);
        check.equal(x.code(0), 'a');
        check.equal(x.isComplete(), true);
        check.equal(x.undo(), 4);
        check.equal(x.code(0), 'A');
        check.equal(x.isComplete(), false);
        check.equal(x.undo(), 3);
        check.equal(x.year(), 0);
        check.equal(x.undo(), 2);
        check.equal(x.account(2), 0);
        check.equal(x.undo(), 1);
        check.equal(x.account(1), 0);
        check.equal(x.undo(), 0);
        check.equal(x.account(0), 0);
        check.fails(STATE, x::undo);
        for (int i = 0; i < 11; i++) {
            x.pass(1);
        }
        for (int i = 7; i >= 0; i--) {
            check.equal(x.undo(), i);
            check.equal(x.year(), i + 3);
        }
        check.fails(STATE, x::undo);
        check.equal(x.year(), 3);
    }

    private void undoLeavesWhatIsNoDesk() {
        CreditTransfer x = new CreditTransfer();
        x.pass(1);
        x.save();
        x.pass(1);
        put(x, "a0");
        check.fails(REFUSED, x::readProgram);
        put(x, "a");
        check.fails(ARGUMENT, x::readProgram);
        put(x, "b");
        check.equal(x.undo(), 1);
        check.equal(x.faultPosition(), 1);
        check.equal(x.refusal(), 3);
        x.restore();
        check.equal(x.faultPosition(), 1);
        check.equal(x.refusal(), 3);
        readsTo(x, "1", 1);
        check.equal(x.letter(0, 0), 'b');
    }

    private void save() {
        CreditTransfer x = new CreditTransfer();
        x.pass(1);
        x.save();
        check.equal(x.undo(), 0);
        x.restore();
        check.equal(x.year(), 1);
        x.pass(1);
        x.save();
        x.pass(1);
        x.restore();
        check.equal(x.year(), 2);
        check.fails(STATE, x::undo);
    }

    private void restore() {
        CreditTransfer x = new CreditTransfer();
        check.fails(STATE, () -> { x.restore(); return 0; });
        x.addCredit('A', 5, 10, 0);
        x.addEquivalence('A', ' ', 'a', ' ');
        readsTo(x, "a5", 1);
        x.pass(2);
        x.save();
        x.apply(0);
        x.addEquivalence('B', ' ', 'b', ' ');
        readsTo(x, "b5c5", 2);
        x.pass(2);
        x.restore();
        check.equal(x.year(), 2);
        check.equal(x.code(0), 'A');
        check.equal(x.account(1), 1);
        check.equal(x.account(2), 1);
        check.equal(x.letter(0, 0), 'a');
        check.fails(STATE, x::undo);
        x.dropCredit(0);
        check.equal(x.undo(), 0);
        x.dropCredit(0);
        x.restore();
        check.equal(x.account(0), 1);
        check.fails(STATE, x::undo);
    }
}
