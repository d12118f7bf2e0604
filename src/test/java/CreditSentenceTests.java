/** The sentences of the description that tell of years, credits, equivalences, changes and exceptions. */
final class CreditSentenceTests extends DeskTests {
    private CreditSentenceTests(Check check) {
        super(check);
    }

    static void runAll(Check check) {
        CreditSentenceTests tests = new CreditSentenceTests(check);
        tests.years();
        tests.credits();
        tests.equivalences();
        tests.changes();
        tests.exceptions();
    }

    private void years() {
        says("Years are numbered from 0 to 60", this::yearsFrom0To60);
        says("The desk is in a year, 0 at first", this::yearAtFirst);
    }

    private void credits() {
        says("At most 6 credits are kept, numbered from 0", this::atMostSixCredits);
        says("The numbers of the later credits decrease by 1", this::laterCreditsMoveUp);
        says("A code is a letter A to Z or a to z", this::codesOfCredits);
        says("Points are from 1 to 12", this::pointsOfCredits);
        says("A grade is from 0 to 20", this::gradesOfCredits);
        says("A year of a credit is not behind that of the desk", this::yearsOfCredits);
        says("A credit is passed if its grade is at least 10", this::passedCredits);
    }

    private void equivalences() {
        says("At most 8 equivalences are made, numbered from 0", this::atMostEightEquivalences);
        says("It leads from 1 or 2 letters A to Z", this::lettersFromWhichItLeads);
        says("It leads to 1 or 2 letters a to z", this::lettersToWhichItLeads);
        says("Its letters are different ones", this::differentLetters);
        says("The passed credit with the most points is taken", this::takesTheMostPoints);
        says("Of several the one with the lowest number is taken", this::takesTheLowestNumber);
        says("A credit is taken for each letter", this::takesOneForEachLetter);
        says("The credits that stay move up, and those that come have the greatest numbers", this::orderOfCredits);
        says("An own credit comes for each letter in their order", this::comesForEachLetter);
        says("The points are divided and rounded down", this::dividesPoints);
        says("The points left over are points of the first one", this::pointsLeftOver);
        says("The grade is the least one", this::leastGrade);
        says("The year is the earliest one", this::earliestYear);
        says("A credit that comes can have 0 points, or up to 24", this::pointsFrom0To24);
    }

    private void changes() {
        says("Each of six calls is a change", this::sixKindsOfChanges);
        says("No other call is a change", this::otherCallsAreNoChanges);
        says("A call that fails is no change", this::failedCallsAreNoChanges);
        says("The desk before each of the latest 8 changes is kept", this::latestEightChanges);
        says("A change that is undone makes room", this::changesAfterUndo);
        says("restore forgets the changes", this::restoreForgets);
        says("The text buffer does not belong to the desk", this::bufferStays);
        says("The fault position does not belong to the desk", this::faultStays);
        says("The reason that is kept does not belong to the desk", this::reasonStays);
        says("A successful call is a change even if it leaves all as it was", this::changesThatChangeNothing);
    }

    private void exceptions() {
        says("What rootsBy and bestEquivalence try is not kept as a reason", this::triesAreNoReasons);
        says("What a question tries leaves the desk as it was", this::questionsLeaveTheDesk);
        says("An object is used for at most 512 calls", this::the512thCall);
    }

    private void yearsFrom0To60() {
        CreditTransfer x = new CreditTransfer();
        check.equal(x.pass(59), 59);
        check.fails(ARGUMENT, () -> x.pass(2));
        check.equal(x.pass(1), 60);
        check.fails(ARGUMENT, () -> x.pass(1));
        check.equal(x.year(), 60);
        check.equal(x.addCredit('a', 1, 10, 60), 0);
        check.equal(x.addCredit('a', 1, 10, 0), 1);
        check.fails(ARGUMENT, () -> x.addCredit('a', 1, 10, 61));
        check.fails(ARGUMENT, () -> x.addCredit('a', 1, 10, -1));
        check.equal(x.account(0), 2);
    }

    private void yearAtFirst() {
        CreditTransfer x = new CreditTransfer();
        check.equal(x.year(), 0);
        check.fails(ARGUMENT, () -> x.addCredit('a', 1, 10, 1));
        check.equal(x.addCredit('a', 1, 10, 0), 0);
    }

    private void atMostSixCredits() {
        CreditTransfer x = new CreditTransfer();
        check.equal(x.account(0), 0);
        check.fails(INDEX, () -> x.code(0));
        for (int i = 0; i < 6; i++) {
            check.equal(x.addCredit((char) ('a' + i), 1 + i, 10, 0), i);
            check.equal(x.account(0), i + 1);
        }
        check.fails(INDEX, () -> x.code(6));
        check.fails(REFUSED, () -> x.addCredit('g', 1, 10, 0));
        credits(x, "a 1 10 0", "b 2 10 0", "c 3 10 0", "d 4 10 0", "e 5 10 0", "f 6 10 0");
        check.equal(x.dropCredit(5), 5);
        check.equal(x.addCredit('g', 7, 10, 0), 5);
        check.fails(REFUSED, () -> x.addCredit('h', 1, 10, 0));
        check.equal(x.code(5), 'g');
    }

    private static CreditTransfer sixCredits() {
        CreditTransfer x = new CreditTransfer();
        for (int i = 0; i < 6; i++) {
            x.addCredit((char) ('a' + i), 1 + i, 10 + i, 0);
        }
        return x;
    }

    private void laterCreditsMoveUp() {
        CreditTransfer first = sixCredits();
        check.equal(first.dropCredit(0), 5);
        credits(first, "b 2 11 0", "c 3 12 0", "d 4 13 0", "e 5 14 0", "f 6 15 0");
        CreditTransfer middle = sixCredits();
        check.equal(middle.dropCredit(3), 5);
        credits(middle, "a 1 10 0", "b 2 11 0", "c 3 12 0", "e 5 14 0", "f 6 15 0");
        CreditTransfer last = sixCredits();
        check.equal(last.dropCredit(5), 5);
        credits(last, "a 1 10 0", "b 2 11 0", "c 3 12 0", "d 4 13 0", "e 5 14 0");
        CreditTransfer all = sixCredits();
        for (int i = 5; i >= 0; i--) {
            check.equal(all.dropCredit(0), i);
        }
        check.fails(INDEX, () -> all.dropCredit(0));
    }

    private void codesOfCredits() {
        CreditTransfer x = new CreditTransfer();
        char[] good = {'A', 'Z', 'a', 'z'};
        for (char c : good) {
            check.equal(x.code(x.addCredit(c, 1, 10, 0)), c);
        }
        char[] wrong = {'A' - 1, 'Z' + 1, 'a' - 1, 'z' + 1, 0, ' ', 'A' + 256, 'a' + 256, (char) -1};
        for (char c : wrong) {
            check.fails(ARGUMENT, () -> x.addCredit(c, 1, 10, 0));
            check.fails(ARGUMENT, () -> x.rootsWith(c, 1, 10, 0));
        }
        check.equal(x.account(0), 4);
    }

    private void pointsOfCredits() {
        CreditTransfer x = new CreditTransfer();
        check.equal(x.credit(x.addCredit('a', 1, 10, 0), 0), 1);
        check.equal(x.credit(x.addCredit('a', 12, 10, 0), 0), 12);
        int[] wrong = {0, 13, -1, Integer.MIN_VALUE, Integer.MAX_VALUE};
        for (int points : wrong) {
            check.fails(ARGUMENT, () -> x.addCredit('a', points, 10, 0));
            check.fails(ARGUMENT, () -> x.rootsWith('a', points, 10, 0));
        }
        check.equal(x.account(0), 2);
    }

    private void gradesOfCredits() {
        CreditTransfer x = new CreditTransfer();
        check.equal(x.credit(x.addCredit('a', 1, 0, 0), 1), 0);
        check.equal(x.credit(x.addCredit('a', 1, 20, 0), 1), 20);
        int[] wrong = {-1, 21, Integer.MIN_VALUE, Integer.MAX_VALUE};
        for (int grade : wrong) {
            check.fails(ARGUMENT, () -> x.addCredit('a', 1, grade, 0));
            check.fails(ARGUMENT, () -> x.rootsWith('a', 1, grade, 0));
        }
        check.equal(x.account(0), 2);
    }

    private void yearsOfCredits() {
        CreditTransfer x = new CreditTransfer();
        x.pass(7);
        check.equal(x.credit(x.addCredit('a', 1, 10, 7), 2), 7);
        check.equal(x.credit(x.addCredit('a', 1, 10, 0), 2), 0);
        int[] wrong = {-1, 8, Integer.MIN_VALUE, Integer.MAX_VALUE};
        for (int year : wrong) {
            check.fails(ARGUMENT, () -> x.addCredit('a', 1, 10, year));
            check.fails(ARGUMENT, () -> x.rootsWith('a', 1, 10, year));
        }
        check.equal(x.account(0), 2);
        x.pass(1);
        check.equal(x.addCredit('a', 1, 10, 8), 2);
    }

    private void passedCredits() {
        CreditTransfer x = new CreditTransfer();
        x.addEquivalence('A', ' ', 'a', ' ');
        x.addCredit('A', 12, 9, 0);
        check.fails(REFUSED, () -> x.apply(0));
        x.addCredit('A', 1, 10, 0);
        check.equal(x.apply(0), 1);
        credits(x, "A 12 9 0", "a 1 10 0");
        check.fails(REFUSED, () -> x.apply(0));
    }

    private void atMostEightEquivalences() {
        CreditTransfer x = new CreditTransfer();
        check.equal(x.account(1), 0);
        check.fails(INDEX, () -> x.equivalent(0, 0));
        for (int i = 0; i < 8; i++) {
            check.equal(x.addEquivalence((char) ('A' + i), ' ', 'a', ' '), i);
            check.equal(x.account(1), i + 1);
        }
        check.fails(INDEX, () -> x.equivalent(8, 0));
        check.fails(STATE, () -> x.addEquivalence('X', ' ', 'a', ' '));
        check.equal(x.account(1), 8);
        for (int i = 0; i < 8; i++) {
            check.equal(x.equivalent(i, 0), (char) ('A' + i));
        }
    }

    private void lettersFromWhichItLeads() {
        CreditTransfer x = new CreditTransfer();
        check.equal(x.addEquivalence('A', ' ', 'a', ' '), 0);
        check.equal(x.addEquivalence('Z', 'A', 'a', ' '), 1);
        check.equal(x.addEquivalence('A', 'Z', 'a', ' '), 2);
        char[] wrong = {'A' - 1, 'Z' + 1, 'a', 'z', 0, ' ' - 1, ' ' + 1, 'A' + 256, (char) -1};
        for (char c : wrong) {
            check.fails(ARGUMENT, () -> x.addEquivalence(c, 'B', 'a', ' '));
            check.fails(ARGUMENT, () -> x.addEquivalence('B', c, 'a', ' '));
        }
        check.fails(ARGUMENT, () -> x.addEquivalence(' ', 'B', 'a', ' '));
        check.equal(x.account(1), 3);
    }

    private void lettersToWhichItLeads() {
        CreditTransfer x = new CreditTransfer();
        check.equal(x.addEquivalence('A', ' ', 'a', ' '), 0);
        check.equal(x.addEquivalence('A', ' ', 'z', 'a'), 1);
        check.equal(x.addEquivalence('A', ' ', 'a', 'z'), 2);
        char[] wrong = {'a' - 1, 'z' + 1, 'A', 'Z', 0, ' ' - 1, ' ' + 1, 'a' + 256, (char) -1};
        for (char c : wrong) {
            check.fails(ARGUMENT, () -> x.addEquivalence('B', ' ', c, 'b'));
            check.fails(ARGUMENT, () -> x.addEquivalence('B', ' ', 'b', c));
        }
        check.fails(ARGUMENT, () -> x.addEquivalence('B', ' ', ' ', 'b'));
        check.equal(x.account(1), 3);
    }

    private void differentLetters() {
        CreditTransfer x = new CreditTransfer();
        check.fails(ARGUMENT, () -> x.addEquivalence('A', 'A', 'a', 'b'));
        check.fails(ARGUMENT, () -> x.addEquivalence('A', 'B', 'a', 'a'));
        check.fails(ARGUMENT, () -> x.addEquivalence(' ', ' ', 'a', 'b'));
        check.fails(ARGUMENT, () -> x.addEquivalence('A', 'B', ' ', ' '));
        // An A and an a are different letters, and two equivalences may be alike.
        check.equal(x.addEquivalence('A', 'B', 'a', 'b'), 0);
        check.equal(x.addEquivalence('A', 'B', 'a', 'b'), 1);
    }

    private void takesTheMostPoints() {
        CreditTransfer x = new CreditTransfer();
        x.addEquivalence('A', ' ', 'a', ' ');
        x.addCredit('A', 12, 9, 0);
        x.addCredit('A', 3, 20, 0);
        x.addCredit('A', 4, 10, 0);
        x.addCredit('B', 9, 20, 0);
        x.addCredit('a', 9, 20, 0);
        check.equal(x.apply(0), 1);
        credits(x, "A 12 9 0", "A 3 20 0", "B 9 20 0", "a 9 20 0", "a 4 10 0");
        check.equal(x.apply(0), 1);
        credits(x, "A 12 9 0", "B 9 20 0", "a 9 20 0", "a 4 10 0", "a 3 20 0");
    }

    private void takesTheLowestNumber() {
        CreditTransfer x = new CreditTransfer();
        x.addEquivalence('A', ' ', 'a', ' ');
        x.addCredit('A', 4, 9, 0);
        x.addCredit('A', 4, 11, 0);
        x.addCredit('A', 4, 20, 0);
        x.addCredit('A', 4, 10, 0);
        check.equal(x.apply(0), 1);
        credits(x, "A 4 9 0", "A 4 20 0", "A 4 10 0", "a 4 11 0");
    }

    private void takesOneForEachLetter() {
        CreditTransfer x = new CreditTransfer();
        x.addEquivalence('A', 'B', 'a', ' ');
        x.addCredit('A', 4, 10, 0);
        x.addCredit('A', 3, 10, 0);
        check.fails(REFUSED, () -> x.apply(0));
        x.addCredit('B', 2, 9, 0);
        check.fails(REFUSED, () -> x.apply(0));
        x.addCredit('B', 1, 10, 0);
        check.equal(x.apply(0), 1);
        credits(x, "A 3 10 0", "B 2 9 0", "a 5 10 0");
        // The second letter alone is not enough either.
        CreditTransfer y = new CreditTransfer();
        y.addEquivalence('A', 'B', 'a', ' ');
        y.addCredit('B', 4, 10, 0);
        check.fails(REFUSED, () -> y.apply(0));
        check.equal(y.account(0), 1);
    }

    private void orderOfCredits() {
        CreditTransfer x = new CreditTransfer();
        x.addEquivalence('B', 'A', 'y', 'x');
        x.addCredit('A', 2, 10, 0);
        x.addCredit('c', 1, 11, 0);
        x.addCredit('d', 1, 12, 0);
        x.addCredit('B', 2, 10, 0);
        x.addCredit('e', 1, 13, 0);
        check.equal(x.apply(0), 2);
        credits(x, "c 1 11 0", "d 1 12 0", "e 1 13 0", "y 2 10 0", "x 2 10 0");
    }

    private static CreditTransfer applied(char second, char other) {
        CreditTransfer x = new CreditTransfer();
        x.pass(9);
        x.addCredit('A', 7, 12, 8);
        x.addCredit('B', 4, 15, 5);
        x.addEquivalence('A', second, 'z', other);
        x.apply(0);
        return x;
    }

    private void comesForEachLetter() {
        credits(applied(' ', ' '), "B 4 15 5", "z 7 12 8");
        credits(applied(' ', 'a'), "B 4 15 5", "z 4 12 8", "a 3 12 8");
        credits(applied('B', ' '), "z 11 12 5");
        credits(applied('B', 'a'), "z 6 12 5", "a 5 12 5");
    }

    private CreditTransfer divided(int points) {
        CreditTransfer x = new CreditTransfer();
        x.addCredit('A', points, 10, 0);
        x.addEquivalence('A', ' ', 'a', 'b');
        check.equal(x.apply(0), 2);
        return x;
    }

    private void dividesPoints() {
        credits(divided(12), "a 6 10 0", "b 6 10 0");
        credits(divided(2), "a 1 10 0", "b 1 10 0");
    }

    private void pointsLeftOver() {
        credits(divided(11), "a 6 10 0", "b 5 10 0");
        credits(divided(3), "a 2 10 0", "b 1 10 0");
        credits(divided(1), "a 1 10 0", "b 0 10 0");
    }

    private CreditTransfer joined(int grade, int year, int otherGrade, int otherYear) {
        CreditTransfer x = new CreditTransfer();
        x.pass(60);
        x.addCredit('A', 12, grade, year);
        x.addCredit('B', 12, otherGrade, otherYear);
        x.addEquivalence('A', 'B', 'a', ' ');
        check.equal(x.apply(0), 1);
        return x;
    }

    private void leastGrade() {
        credits(joined(10, 5, 20, 5), "a 24 10 5");
        credits(joined(20, 5, 10, 5), "a 24 10 5");
        credits(joined(20, 5, 20, 5), "a 24 20 5");
        credits(joined(13, 0, 12, 60), "a 24 12 0");
    }

    private void earliestYear() {
        credits(joined(10, 0, 10, 60), "a 24 10 0");
        credits(joined(10, 60, 10, 0), "a 24 10 0");
        credits(joined(10, 60, 10, 60), "a 24 10 60");
        credits(joined(12, 3, 13, 2), "a 24 12 2");
    }

    private void pointsFrom0To24() {
        CreditTransfer least = divided(1);
        check.equal(least.credit(1, 0), 0);
        check.equal(least.account(0), 2);
        check.equal(least.account(8), 1);
        check.equal(least.dropCredit(1), 1);
        CreditTransfer most = joined(10, 0, 10, 0);
        check.equal(most.credit(0, 0), 24);
        check.equal(most.account(8), 24);
        readsTo(most, "a24", 1);
        check.equal(most.isMet(0), true);
        readsTo(most, "a25", 1);
        check.equal(most.isMet(0), false);
    }

    private void sixKindsOfChanges() {
        CreditTransfer x = new CreditTransfer();
        x.addCredit('A', 5, 10, 0);
        check.equal(x.undo(), 0);
        check.equal(x.account(0), 0);
        x.addCredit('A', 5, 10, 0);
        x.dropCredit(0);
        check.equal(x.undo(), 1);
        check.equal(x.account(0), 1);
        x.addEquivalence('A', ' ', 'a', ' ');
        check.equal(x.undo(), 1);
        check.equal(x.account(1), 0);
        x.addEquivalence('A', ' ', 'a', ' ');
        x.apply(0);
        check.equal(x.undo(), 2);
        check.equal(x.code(0), 'A');
        readsTo(x, "a1", 1);
        check.equal(x.undo(), 2);
        check.equal(x.account(2), 0);
        x.pass(1);
        check.equal(x.undo(), 2);
        check.equal(x.year(), 0);
    }

    private void otherCallsAreNoChanges() {
        CreditTransfer x = new CreditTransfer();
        x.append('a');
        x.append('1');
        check.fails(STATE, x::undo);
        x.save();
        check.fails(STATE, x::undo);
        x.restore();
        check.fails(STATE, x::undo);
        x.readProgram();
        x.save();
        x.isMet(0);
        x.rootsWith('a', 1, 10, 0);
        check.fails(ELEMENT, x::lapses);
        check.equal(x.undo(), 0);
        check.fails(STATE, x::undo);
    }

    private void failedCallsAreNoChanges() {
        CreditTransfer x = new CreditTransfer();
        x.addEquivalence('A', ' ', 'a', ' ');
        check.fails(ARGUMENT, () -> x.addCredit('a', 0, 10, 0));
        check.fails(INDEX, () -> x.dropCredit(0));
        check.fails(ARGUMENT, () -> x.addEquivalence('a', ' ', 'a', ' '));
        check.fails(REFUSED, () -> x.apply(0));
        check.fails(INDEX, () -> x.apply(1));
        check.fails(ARGUMENT, x::readProgram);
        put(x, "a0");
        check.fails(REFUSED, x::readProgram);
        check.fails(ARGUMENT, () -> x.pass(-1));
        check.fails(ARGUMENT, () -> x.pass(61));
        check.fails(STATE, () -> { x.restore(); return 0; });
        check.equal(x.undo(), 0);
        check.fails(STATE, x::undo);
        for (int i = 0; i < 6; i++) {
            x.addCredit('a', 1, 10, 0);
        }
        check.fails(REFUSED, () -> x.addCredit('a', 1, 10, 0));
        check.equal(x.undo(), 5);
    }

    private void latestEightChanges() {
        CreditTransfer eight = new CreditTransfer();
        for (int i = 0; i < 8; i++) {
            eight.pass(1);
        }
        for (int i = 7; i >= 0; i--) {
            check.equal(eight.undo(), i);
            check.equal(eight.year(), i);
        }
        check.fails(STATE, eight::undo);
        CreditTransfer nine = new CreditTransfer();
        for (int i = 0; i < 9; i++) {
            nine.pass(1);
        }
        for (int i = 7; i >= 0; i--) {
            check.equal(nine.undo(), i);
            check.equal(nine.year(), i + 1);
        }
        check.fails(STATE, nine::undo);
        check.equal(nine.year(), 1);
    }

    private void changesAfterUndo() {
        CreditTransfer x = new CreditTransfer();
        for (int i = 0; i < 8; i++) {
            x.pass(1);
        }
        for (int i = 0; i < 3; i++) {
            x.undo();
        }
        for (int i = 0; i < 4; i++) {
            x.pass(10);
        }
        check.equal(x.year(), 45);
        int[] years = {35, 25, 15, 5, 4, 3, 2, 1};
        for (int i = 0; i < years.length; i++) {
            check.equal(x.undo(), 7 - i);
            check.equal(x.year(), years[i]);
        }
        check.fails(STATE, x::undo);
    }

    private void restoreForgets() {
        CreditTransfer x = new CreditTransfer();
        x.pass(1);
        x.save();
        for (int i = 0; i < 9; i++) {
            x.pass(1);
        }
        x.restore();
        check.fails(STATE, x::undo);
        check.equal(x.year(), 1);
        x.pass(5);
        check.equal(x.undo(), 0);
        check.equal(x.year(), 1);
        check.fails(STATE, x::undo);
    }

    private void bufferStays() {
        CreditTransfer x = new CreditTransfer();
        x.append('a');
        x.pass(1);
        x.append('b');
        x.save();
        x.append('1');
        x.undo();
        x.append('2');
        x.restore();
        readsTo(x, "<3", 1);
        blockIs(x, 0, 0, -1, 0, 12, 3, 10, 2, 0);
        // A text that was read does not come back when the reading is undone.
        x.undo();
        check.fails(ARGUMENT, x::readProgram);
        check.equal(x.faultPosition(), 0);
    }

    private void faultStays() {
        CreditTransfer x = new CreditTransfer();
        x.save();
        x.pass(1);
        put(x, "ab");
        check.fails(ARGUMENT, x::readProgram);
        x.undo();
        check.equal(x.faultPosition(), 2);
        x.restore();
        check.equal(x.faultPosition(), 2);
        readsTo(x, "a1", 1);
        x.undo();
        check.equal(x.faultPosition(), -1);
        x.restore();
        check.equal(x.faultPosition(), -1);
    }

    private void reasonStays() {
        CreditTransfer x = new CreditTransfer();
        x.save();
        x.pass(1);
        put(x, "a0");
        check.fails(REFUSED, x::readProgram);
        x.undo();
        check.equal(x.refusal(), 3);
        x.restore();
        check.equal(x.refusal(), 3);
    }

    private void changesThatChangeNothing() {
        CreditTransfer x = new CreditTransfer();
        check.equal(x.pass(0), 0);
        check.equal(x.undo(), 0);
        readsTo(x, "a1", 1);
        readsTo(x, "a1", 1);
        check.equal(x.undo(), 1);
        for (int i = 0; i < 8; i++) {
            x.pass(0);
        }
        for (int i = 7; i >= 0; i--) {
            check.equal(x.undo(), i);
        }
        check.fails(STATE, x::undo);
        check.equal(x.account(2), 1);
    }

    private void triesAreNoReasons() {
        CreditTransfer x = new CreditTransfer();
        x.addEquivalence('A', ' ', 'a', 'b');
        check.fails(ELEMENT, () -> x.rootsBy(0));
        check.fails(ELEMENT, x::bestEquivalence);
        check.fails(ELEMENT, x::refusal);
        put(x, "[2:a1]");
        check.fails(REFUSED, x::readProgram);
        check.fails(ELEMENT, () -> x.rootsBy(0));
        check.fails(ELEMENT, x::bestEquivalence);
        check.equal(x.refusal(), 5);
        for (int i = 0; i < 6; i++) {
            x.addCredit('A', 1, 10, 0);
        }
        check.fails(ELEMENT, () -> x.rootsBy(0));
        check.fails(ELEMENT, x::bestEquivalence);
        check.fails(STATE, () -> x.rootsWith('a', 1, 10, 0));
        check.equal(x.refusal(), 5);
    }

    private void questionsLeaveTheDesk() {
        CreditTransfer x = desk("a5b5");
        x.addEquivalence('A', ' ', 'a', 'b');
        x.addCredit('A', 10, 10, 0);
        check.equal(x.rootsBy(0), 2);
        check.equal(x.bestEquivalence(), 0);
        check.equal(x.rootsWith('a', 5, 10, 0), 1);
        check.fails(ELEMENT, x::lapses);
        check.equal(x.account(5), 0);
        credits(x, "A 10 10 0");
        check.equal(x.year(), 0);
        isMetSet(x, false, false);
        check.equal(x.undo(), 2);
    }

    private void the512thCall() {
        CreditTransfer x = new CreditTransfer();
        for (int i = 0; i < 170; i++) {
            check.equal(x.addCredit('a', 1 + i % 12, 10, 0), 0);
            check.equal(x.pass(0), 0);
            check.equal(x.dropCredit(0), 0);
        }
        check.equal(x.undo(), 7);
        check.equal(x.credit(0, 0), 2);
    }
}
