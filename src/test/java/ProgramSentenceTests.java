/** The sentences of the description that tell of programs: acceptance, use, layers, texts and reasons. */
final class ProgramSentenceTests extends DeskTests {
    private ProgramSentenceTests(Check check) {
        super(check);
    }

    static void runAll(Check check) {
        ProgramSentenceTests tests = new ProgramSentenceTests(check);
        tests.program();
        tests.acceptance();
        tests.use();
        tests.bestUse();
        tests.layers();
        tests.texts();
        tests.reasons();
    }

    private void program() {
        says("A leaf has 1 to 5 letters", this::lettersOfLeaves);
        says("The letters of a leaf are different ones", this::differentLetters);
        says("The letters of a leaf are from a to z", this::lettersFromAToZ);
        says("Least points are from 1 to 30", this::leastPoints);
        says("A term is from 0 to 60", this::terms);
        says("A least grade is from 10 to 20", this::leastGrades);
        says("The number of parts that must be met is from 1 to 9", this::numbersOfGroups);
        says("A group has 1 or more parts", this::oneOrMoreParts);
        says("Blocks are numbered from 0 in the order in which they begin", this::orderOfBlocks);
        says("There are at most 8 blocks", this::atMostEightBlocks);
        says("At most 4 of them are leaves", this::atMostFourLeaves);
        says("The blocks that are no parts of others are roots", this::roots);
        says("At first there are no blocks", this::noBlocksAtFirst);
        says("A new program takes the place of the one before", this::newProgram);
        says("Parts of groups count as leaves like all others", this::partsAreLeaves);
    }

    private void acceptance() {
        says("The letters contain the code of the credit", this::acceptsByCode);
        says("The grade is at least the least grade", this::acceptsByGrade);
        says("The year of the desk minus that of the credit is at most the term", this::acceptsByYear);
        says("Credits of other universities are accepted by no leaf", this::acceptsNoForeign);
    }

    private void use() {
        says("A use gives each credit to one leaf", this::oneLeafForEachCredit);
        says("A use gives a credit to a leaf that accepts it", this::onlyWhereAccepted);
        says("A leaf is met if its points are at least its least points", this::leafIsMet);
        says("A group is met if so many of its parts are met as must be", this::groupIsMet);
        says("A part that is a group counts as one part", this::groupsArePartsToo);
        says("Without blocks no root is met, and the program is not complete", this::withoutBlocks);
        says("Without credits no leaf is met", this::withoutCredits);
        says("Points that a leaf does not need count as given", this::pointsNotNeeded);
    }

    private void bestUse() {
        says("By the best use the most roots are met", this::mostRoots);
        says("Of several, the most leaves", this::mostLeaves);
        says("Of several, the one that gives the fewest points", this::fewestPoints);
        says("Of several, a leaf with a lower number comes first", this::lowerLeafFirst);
        says("None comes last", this::noneLast);
        says("They are compared credit by credit in ascending order", this::creditByCredit);
        says("A credit of 0 points goes to the lowest leaf that accepts it", this::creditOfNoPoints);
    }

    private void layers() {
        says("The layer of a group: kind 1, and the number of parts that are met", this::layerOfGroup);
        says("Its cause is the layer of its first part that is not met", this::firstPartNotMet);
        says("The layer of a leaf: kind 2, and the points that it lacks", this::layerOfLeaf);
        says("Its cause is the first credit with one of its letters that it does not get", this::firstCredit);
        says("There is no cause if there is no such credit", this::noSuchCredit);
        says("Kind 3 if the grade is too low", this::gradeTooLow);
        says("Otherwise 4 if it is too old", this::tooOld);
        says("Otherwise 5 if another leaf gets it", this::anotherLeaf);
        says("Otherwise 6", this::noLeaf);
        says("Layers are told from 0 on, up to five of them", this::upToFiveLayers);
    }

    private void texts() {
        says("A text consists of 1 or more blocks", this::oneOrMoreBlocks);
        says("A leaf is its letters and its least points", this::textOfLeaf);
        says("Possibly < and its term, which is 60 otherwise", this::textOfTerm);
        says("Possibly > and its least grade, which is 10 otherwise", this::textOfGrade);
        says("A term does not stand behind a least grade", this::termBehindGrade);
        says("A group is a bracket, a number, a colon, its parts with commas, a bracket", this::textOfGroup);
        says("At most 3 brackets are open at a time", this::openBrackets);
        says("A bracket that begins a group is not open yet where the group begins", this::bracketsWhereItBegins);
        says("Numbers have 1 or 2 digits", this::oneOrTwoDigits);
        says("They do not begin with 0, except for 0 itself", this::leadingZeros);
        says("The second one of two like letters is a fault", this::secondLikeLetter);
        says("A sixth letter is a fault", this::sixthLetter);
        says("The fault position is the length of a text that ends too early", this::endsTooEarly);
        says("Roots stand one directly behind the other", this::rootsWithoutSigns);
        says("No other sign continues a text", this::otherSigns);
        says("The text buffer contains up to 50 characters", this::fiftyCharacters);
    }

    private void reasons() {
        says("Reason 1: 6 credits are kept", this::sixAreKept);
        says("Reason 1: more than 6 credits would be kept", this::moreWouldBeKept);
        says("Reason 2: there is no passed credit", this::noPassedCredit);
        says("Reason 2 comes before 1", this::reason2Before1);
        says("Reason 3: a number of a text is out of range", this::outOfRange);
        says("Reason 4: more than 8 blocks or more than 4 leaves", this::tooManyBlocks);
        says("Reason 5: more parts must be met than a group has", this::tooFewParts);
        says("Of reasons 3 to 5 the first one counts", this::firstReasonOfAText);
        says("A fault of a text comes before a reason", this::faultBeforeReason);
    }

    private void lettersOfLeaves() {
        CreditTransfer x = desk("a1zyxwv2");
        check.equal(x.block(0, 6), 1);
        check.equal(x.block(1, 6), 5);
        hasFault("1", 0);
        hasFault("abcdef1", 5);
        hasFault("[1:1]", 3);
        hasFault("[1:abcdef1]", 8);
    }

    private void differentLetters() {
        hasFault("aa1", 1);
        hasFault("abcda1", 4);
        hasFault("abb1", 2);
        // Two leaves may have like letters.
        readsTo(new CreditTransfer(), "ab1ab1[2:ab1,ba1]", 5);
    }

    private void lettersFromAToZ() {
        readsTo(new CreditTransfer(), "az1", 1);
        hasFault("a`1", 1);
        hasFault("a{1", 1);
        hasFault("`1", 0);
        hasFault("{1", 0);
        hasFault("A1", 0);
        hasFault("aZ1", 1);
        hasFault("a" + (char) ('b' + 256) + "1", 1);
    }

    private void leastPoints() {
        check.equal(desk("a1").block(0, 3), 1);
        check.equal(desk("a30").block(0, 3), 30);
        isRefused("a0", 3);
        isRefused("a31", 3);
        isRefused("a99", 3);
        isRefused("b1[1:a0]", 3);
        isRefused("[1:b1,a31]", 3);
    }

    private void terms() {
        check.equal(desk("a1<0").block(0, 4), 0);
        check.equal(desk("a1<60").block(0, 4), 60);
        isRefused("a1<61", 3);
        isRefused("a1<99", 3);
        isRefused("b1[1:b1,a1<61]", 3);
    }

    private void leastGrades() {
        check.equal(desk("a1>10").block(0, 5), 10);
        check.equal(desk("a1>20").block(0, 5), 20);
        isRefused("a1>9", 3);
        isRefused("a1>21", 3);
        isRefused("a1>0", 3);
        isRefused("a1>99", 3);
        isRefused("b1[1:b1,a1>9]", 3);
    }

    private void numbersOfGroups() {
        check.equal(desk("[1:a1]").block(0, 3), 1);
        check.equal(desk("[4:a1,b1,c1,d1]").block(0, 3), 4);
        hasFault("[0:a1]", 1);
        hasFault("[::a1]", 1);
        hasFault("[/:a1]", 1);
        hasFault("[a1]", 1);
        hasFault("[10:a1]", 2);
        // 9 is no fault, but no program has a group of 9 parts.
        isRefused("[9:a1]", 5);
        isRefused("[5:a1,b1,c1,d1]", 5);
    }

    private void oneOrMoreParts() {
        hasFault("[1:]", 3);
        check.equal(desk("[1:a1]").block(0, 2), 1);
        CreditTransfer x = desk("[1:a1,b1,[1:c1],d1]");
        check.equal(x.block(0, 2), 4);
        check.equal(x.part(0, 3), 5);
    }

    private void orderOfBlocks() {
        CreditTransfer x = desk("a1[1:[1:b2],c3][1:d4]");
        check.equal(x.account(2), 7);
        blockIs(x, 0, 0, -1, 0, 1);
        blockIs(x, 1, 1, -1, 2, 1);
        blockIs(x, 2, 1, 1, 1, 1);
        blockIs(x, 3, 0, 2, 0, 2);
        blockIs(x, 4, 0, 1, 0, 3);
        blockIs(x, 5, 1, -1, 1, 1);
        blockIs(x, 6, 0, 5, 0, 4);
        check.fails(INDEX, () -> x.block(7, 0));
    }

    private void atMostEightBlocks() {
        readsTo(new CreditTransfer(), "[1:[1:a1]][1:[1:b1]]c1d1", 8);
        isRefused("[1:[1:[1:a1]]][1:[1:b1]]c1d1", 4);
        readsTo(new CreditTransfer(), "[1:[1:[1:a1]]][1:[1:[1:a1]]]", 8);
        isRefused("[1:[1:[1:a1]]][1:[1:[1:a1]]]b1", 4);
    }

    private void atMostFourLeaves() {
        readsTo(new CreditTransfer(), "a1b1c1d1", 4);
        isRefused("a1b1c1d1e1", 4);
        readsTo(new CreditTransfer(), "[1:a1,b1,c1,d1]", 5);
        isRefused("[1:a1,b1,c1,d1,e1]", 4);
        isRefused("[1:a1,b1]c1[1:d1]e1", 4);
    }

    private void roots() {
        CreditTransfer x = desk("[1:[1:a1]]b1[1:c1]");
        check.equal(x.account(4), 3);
        check.equal(x.block(0, 1), -1);
        check.equal(x.block(1, 1), 0);
        check.equal(x.block(2, 1), 1);
        check.equal(x.block(3, 1), -1);
        check.equal(x.block(4, 1), -1);
        check.equal(x.block(5, 1), 4);
        // A part that is met is no root that is met.
        CreditTransfer y = desk("[2:a1,b1]c1");
        y.addCredit('a', 1, 10, 0);
        check.equal(y.account(5), 0);
        check.equal(y.account(6), 1);
    }

    private void noBlocksAtFirst() {
        CreditTransfer x = new CreditTransfer();
        check.equal(x.account(2), 0);
        check.fails(INDEX, () -> x.block(0, 0));
        check.fails(INDEX, () -> x.isMet(0));
    }

    private void newProgram() {
        CreditTransfer x = desk("[1:[1:a1]][1:[1:b1]]c1d1");
        x.addCredit('a', 1, 10, 0);
        check.equal(x.account(5), 1);
        readsTo(x, "b2", 1);
        check.equal(x.account(2), 1);
        check.equal(x.account(3), 1);
        check.equal(x.account(5), 0);
        check.fails(INDEX, () -> x.block(1, 0));
        blockIs(x, 0, 0, -1, 0, 2, 60, 10, 1, 0);
        check.equal(x.undo(), 2);
        check.equal(x.account(2), 8);
        check.equal(x.isMet(2), true);
    }

    private void partsAreLeaves() {
        CreditTransfer x = desk("[1:a1,[1:b1]]c1");
        check.equal(x.account(3), 3);
        x.addCredit('b', 1, 10, 0);
        x.addCredit('a', 1, 10, 0);
        x.addCredit('c', 1, 10, 0);
        check.equal(x.account(6), 3);
        check.equal(x.account(5), 2);
    }

    private void acceptsByCode() {
        CreditTransfer x = desk("bdfhj1");
        char[] codes = {'b', 'f', 'j', 'a', 'c', 'k'};
        for (int i = 0; i < codes.length; i++) {
            x.addCredit(codes[i], 1, 10, 0);
            check.equal(x.accepts(0, i), i < 3);
            check.equal(x.credit(i, 4), i < 3 ? 1 : 0);
        }
    }

    private void acceptsByGrade() {
        CreditTransfer x = desk("a1>12a1a1>20");
        int[] grades = {9, 10, 11, 12, 19, 20};
        int[] sets = {0, 2, 2, 3, 3, 7};
        for (int i = 0; i < grades.length; i++) {
            x.addCredit('a', 1, grades[i], 0);
            check.equal(x.credit(i, 4), sets[i]);
            check.equal(x.accepts(0, i), grades[i] >= 12);
        }
    }

    private void acceptsByYear() {
        CreditTransfer x = desk("a1<0a1<3a1<59a1");
        x.pass(60);
        int[] years = {60, 59, 57, 56, 1, 0};
        int[] sets = {15, 14, 14, 12, 12, 8};
        for (int i = 0; i < years.length; i++) {
            x.addCredit('a', 1, 10, years[i]);
            check.equal(x.credit(i, 4), sets[i]);
            check.equal(x.accepts(1, i), years[i] >= 57);
        }
    }

    private void acceptsNoForeign() {
        CreditTransfer x = desk("abcz1");
        x.addCredit('A', 12, 20, 0);
        x.addCredit('Z', 12, 20, 0);
        check.equal(x.accepts(0, 0), false);
        check.equal(x.accepts(0, 1), false);
        takers(x, -1, -1);
        check.equal(x.isMet(0), false);
        layersAre(x, 0, 2, 1);
    }

    private void oneLeafForEachCredit() {
        CreditTransfer x = desk("a5a5");
        x.addCredit('a', 12, 10, 0);
        isMetSet(x, true, false);
        takers(x, 0);
        x.addCredit('a', 5, 10, 0);
        isMetSet(x, true, true);
        takers(x, 0, 1);
    }

    private void onlyWhereAccepted() {
        CreditTransfer x = desk("a5>15b5<2");
        x.pass(3);
        x.addCredit('a', 5, 14, 3);
        x.addCredit('b', 5, 20, 0);
        x.addCredit('c', 5, 20, 3);
        takers(x, -1, -1, -1);
        isMetSet(x, false, false);
        check.equal(x.account(9), 3);
        x.addCredit('a', 5, 15, 3);
        x.addCredit('b', 5, 20, 1);
        takers(x, -1, -1, -1, 0, 1);
        isMetSet(x, true, true);
    }

    private void leafIsMet() {
        CreditTransfer x = desk("a9");
        x.addCredit('a', 8, 10, 0);
        check.equal(x.isMet(0), false);
        x.addCredit('a', 1, 10, 0);
        check.equal(x.isMet(0), true);
        CreditTransfer y = desk("a9");
        y.addCredit('a', 10, 10, 0);
        check.equal(y.isMet(0), true);
        CreditTransfer z = desk("a30");
        z.addCredit('a', 12, 10, 0);
        z.addCredit('a', 12, 10, 0);
        z.addCredit('a', 5, 10, 0);
        check.equal(z.isMet(0), false);
        z.addCredit('a', 1, 10, 0);
        check.equal(z.isMet(0), true);
    }

    private void groupIsMet() {
        CreditTransfer x = desk("[2:a1,b1,c1]");
        check.equal(x.isMet(0), false);
        x.addCredit('b', 1, 10, 0);
        check.equal(x.isMet(0), false);
        x.addCredit('c', 1, 10, 0);
        check.equal(x.isMet(0), true);
        x.addCredit('a', 1, 10, 0);
        check.equal(x.isMet(0), true);
        CreditTransfer all = desk("[3:a1,b1,c1]");
        all.addCredit('a', 1, 10, 0);
        all.addCredit('c', 1, 10, 0);
        check.equal(all.isMet(0), false);
        all.addCredit('b', 1, 10, 0);
        check.equal(all.isMet(0), true);
    }

    private void groupsArePartsToo() {
        CreditTransfer x = desk("[2:[1:a1,b1],[2:a1,b1]]");
        x.addCredit('a', 1, 10, 0);
        x.addCredit('b', 1, 10, 0);
        // Both leaves of the second group are met, or one of each: no use meets both groups.
        isMetSet(x, false);
        check.equal(x.account(6), 2);
        x.addCredit('a', 1, 10, 0);
        isMetSet(x, true, true, true, false, true, true, true);
    }

    private void withoutBlocks() {
        CreditTransfer x = new CreditTransfer();
        check.equal(x.isComplete(), false);
        check.equal(x.account(5), 0);
        x.addCredit('a', 12, 20, 0);
        x.addEquivalence('A', ' ', 'a', ' ');
        x.addCredit('A', 1, 10, 0);
        check.equal(x.isComplete(), false);
        check.equal(x.account(5), 0);
        check.equal(x.account(7), 0);
        check.equal(x.account(9), 2);
        check.equal(x.rootsWith('a', 1, 10, 0), 0);
        check.equal(x.rootsBy(0), 0);
        check.equal(x.bestEquivalence(), 0);
        check.fails(ELEMENT, x::lapses);
        takers(x, -1, -1);
        check.equal(x.credit(0, 4), 0);
    }

    private void withoutCredits() {
        CreditTransfer x = desk("[1:a1]b1");
        isMetSet(x, false, false, false);
        check.equal(x.account(5), 0);
        check.equal(x.account(7), 0);
        check.equal(x.account(8), 0);
        check.equal(x.account(9), 0);
        check.equal(x.points(0), 0);
        check.equal(x.lacks(1), 1);
        check.fails(ARITHMETIC, x::meanGrade);
    }

    private void pointsNotNeeded() {
        CreditTransfer x = desk("a1");
        x.addCredit('a', 12, 10, 0);
        check.equal(x.points(0), 12);
        check.equal(x.account(7), 12);
        check.equal(x.lacks(0), 0);
    }

    private void mostRoots() {
        // One root and one leaf go before two leaves.
        CreditTransfer x = desk("a4[3:a2,a2,b30]");
        x.addCredit('a', 2, 10, 0);
        x.addCredit('a', 2, 10, 0);
        isMetSet(x, true, false, false, false, false);
        takers(x, 0, 0);
        // Two roots go before one.
        CreditTransfer y = desk("a4[2:a2,a2,b30]");
        y.addCredit('a', 2, 10, 0);
        y.addCredit('a', 2, 10, 0);
        y.addCredit('a', 4, 10, 0);
        isMetSet(y, true, true, true, true, false);
        takers(y, 2, 3, 0);
        // The root that must be met may stand last.
        CreditTransfer z = desk("[3:a2,a2,a30]a6");
        z.addCredit('a', 4, 10, 0);
        z.addCredit('a', 2, 10, 0);
        isMetSet(z, false, false, false, false, true);
        takers(z, 4, 4);
    }

    private void mostLeaves() {
        // Either root is met alone: by two leaves rather than by one.
        CreditTransfer x = desk("a4[2:a2,a2]");
        x.addCredit('a', 2, 10, 0);
        x.addCredit('a', 2, 10, 0);
        isMetSet(x, false, true, true, true);
        takers(x, 2, 3);
        // A leaf that meets no root counts, though it takes points.
        CreditTransfer y = desk("[2:a5,b5]");
        y.addCredit('b', 9, 10, 0);
        isMetSet(y, false, false, true);
        check.equal(y.account(7), 9);
    }

    private void fewestPoints() {
        CreditTransfer x = desk("a5");
        x.addCredit('a', 7, 10, 0);
        x.addCredit('a', 6, 10, 0);
        x.addCredit('a', 12, 10, 0);
        takers(x, -1, 0, -1);
        check.equal(x.account(7), 6);
        // Two credits of fewer points go before one of more.
        x.addCredit('a', 2, 10, 0);
        x.addCredit('a', 3, 10, 0);
        takers(x, -1, -1, -1, 0, 0);
        check.equal(x.account(7), 5);
        // A leaf that is not met gets none, and one that is met no more.
        CreditTransfer y = desk("a5b5");
        y.addCredit('a', 4, 10, 0);
        y.addCredit('b', 5, 10, 0);
        y.addCredit('b', 1, 10, 0);
        takers(y, -1, 1, -1);
        check.equal(y.account(9), 2);
    }

    private void lowerLeafFirst() {
        CreditTransfer x = desk("a30[1:a5]a5a5");
        x.addCredit('a', 5, 10, 0);
        takers(x, 2);
        CreditTransfer y = desk("ab5[1:a5]");
        y.addCredit('a', 5, 10, 0);
        takers(y, 0);
        y.addCredit('b', 5, 10, 0);
        takers(y, 2, 0);
    }

    private void noneLast() {
        CreditTransfer x = desk("a5");
        x.addCredit('a', 5, 10, 0);
        x.addCredit('a', 5, 10, 0);
        x.addCredit('a', 5, 10, 0);
        takers(x, 0, -1, -1);
        // Even the last leaf comes before none.
        CreditTransfer y = desk("b30b30b30ab5");
        y.addCredit('a', 5, 10, 0);
        y.addCredit('b', 5, 10, 0);
        takers(y, 3, -1);
    }

    private void creditByCredit() {
        // 3 and 2, or 4 and 1: as many points; the one that gives the first credit comes first.
        CreditTransfer x = desk("a5");
        x.addCredit('a', 1, 10, 0);
        x.addCredit('a', 2, 10, 0);
        x.addCredit('a', 3, 10, 0);
        x.addCredit('a', 4, 10, 0);
        takers(x, 0, -1, -1, 0);
        // The first credit takes the lower leaf, though the second one then has the higher one.
        CreditTransfer y = desk("ab5ab5");
        y.addCredit('b', 5, 10, 0);
        y.addCredit('a', 5, 10, 0);
        takers(y, 0, 1);
        CreditTransfer z = desk("a5ab5");
        z.addCredit('b', 5, 10, 0);
        z.addCredit('a', 5, 10, 0);
        z.addCredit('a', 5, 10, 0);
        takers(z, 1, 0, -1);
    }

    private static CreditTransfer withCreditOfNoPoints(String program) {
        CreditTransfer x = desk(program);
        x.addCredit('A', 1, 10, 0);
        x.addEquivalence('A', ' ', 'z', 'a');
        x.apply(0);
        x.dropCredit(0);
        return x;
    }

    private void creditOfNoPoints() {
        takers(withCreditOfNoPoints("b1[1:a30]a1"), 2);
        takers(withCreditOfNoPoints("b1[1:ca1]"), 2);
        takers(withCreditOfNoPoints("b1c1"), -1);
        takers(withCreditOfNoPoints("a1>11ba9"), 1);
        CreditTransfer x = withCreditOfNoPoints("a9");
        check.equal(x.account(9), 0);
        check.equal(x.account(7), 0);
        check.equal(x.lacks(0), 9);
        check.fails(ARITHMETIC, x::meanGrade);
    }

    private void layerOfGroup() {
        CreditTransfer x = desk("[3:a1,b1,c1]");
        layersAre(x, 0, 1, 0, 2, 1);
        x.addCredit('a', 1, 10, 0);
        layersAre(x, 0, 1, 1, 2, 1);
        x.addCredit('b', 1, 10, 0);
        layersAre(x, 0, 1, 2, 2, 1);
        x.addCredit('c', 1, 10, 0);
        layersAre(x, 0);
        check.equal(x.layers(0), 0);
    }

    private void firstPartNotMet() {
        CreditTransfer x = desk("[3:a2,[2:b3,c4],d5]");
        layersAre(x, 0, 1, 0, 2, 2);
        x.addCredit('a', 2, 10, 0);
        layersAre(x, 0, 1, 1, 1, 0, 2, 3);
        x.addCredit('b', 3, 10, 0);
        layersAre(x, 0, 1, 1, 1, 1, 2, 4);
        x.addCredit('c', 4, 10, 0);
        layersAre(x, 0, 1, 2, 2, 5);
        layersAre(x, 2);
    }

    private void layerOfLeaf() {
        CreditTransfer x = desk("a30b7");
        layersAre(x, 0, 2, 30);
        layersAre(x, 1, 2, 7);
        x.addCredit('b', 6, 10, 0);
        // It gets none of the points that do not meet it.
        layersAre(x, 1, 2, 7, 6, 0);
        check.equal(x.lacks(1), 7);
        x.addCredit('b', 1, 10, 0);
        layersAre(x, 1);
    }

    private void firstCredit() {
        CreditTransfer x = desk("bd9");
        x.addCredit('c', 1, 10, 0);
        x.addCredit('B', 1, 10, 0);
        layersAre(x, 0, 2, 9);
        x.addCredit('d', 1, 10, 0);
        layersAre(x, 0, 2, 9, 6, 2);
        x.addCredit('b', 1, 0, 0);
        layersAre(x, 0, 2, 9, 6, 2);
        x.dropCredit(2);
        layersAre(x, 0, 2, 9, 3, 2);
    }

    private void noSuchCredit() {
        CreditTransfer none = desk("a9");
        layersAre(none, 0, 2, 9);
        none.addCredit('b', 9, 10, 0);
        layersAre(none, 0, 2, 9);
        // A credit that the leaf gets is no cause, but the next one is.
        CreditTransfer got = withCreditOfNoPoints("a9");
        layersAre(got, 0, 2, 9);
        got.addCredit('a', 8, 10, 0);
        layersAre(got, 0, 2, 9, 6, 1);
    }

    private static CreditTransfer withCredit(String program, int year, int grade, int ofYear) {
        CreditTransfer x = desk(program);
        x.pass(year);
        x.addCredit('a', 5, grade, ofYear);
        return x;
    }

    private void gradeTooLow() {
        layersAre(withCredit("a9>12", 5, 11, 5), 0, 2, 9, 3, 0);
        layersAre(withCredit("a9>12", 5, 12, 5), 0, 2, 9, 6, 0);
        layersAre(withCredit("a9", 5, 9, 5), 0, 2, 9, 3, 0);
        layersAre(withCredit("a9", 5, 10, 5), 0, 2, 9, 6, 0);
        // Too low comes before too old, and before that another leaf gets it.
        layersAre(withCredit("a9<2>12", 5, 11, 0), 0, 2, 9, 3, 0);
        layersAre(withCredit("a9>12a5", 5, 11, 5), 0, 2, 9, 3, 0);
    }

    private void tooOld() {
        layersAre(withCredit("a9<2", 5, 12, 2), 0, 2, 9, 4, 0);
        layersAre(withCredit("a9<2", 5, 12, 3), 0, 2, 9, 6, 0);
        layersAre(withCredit("a9<0", 5, 12, 5), 0, 2, 9, 6, 0);
        layersAre(withCredit("a9<0", 5, 12, 4), 0, 2, 9, 4, 0);
        layersAre(withCredit("a9", 60, 12, 0), 0, 2, 9, 6, 0);
        // Too old comes before that another leaf gets it.
        layersAre(withCredit("a9<2a5", 5, 12, 2), 0, 2, 9, 4, 0);
    }

    private void anotherLeaf() {
        layersAre(withCredit("a9a5", 0, 12, 0), 0, 2, 9, 5, 0);
        layersAre(withCredit("a5a5", 0, 12, 0), 1, 2, 5, 5, 0);
        layersAre(withCredit("[2:a5,[1:b1,a9]]", 0, 12, 0), 0, 1, 1, 1, 0, 2, 1);
        layersAre(withCredit("[2:a5,[1:a9,b1]]", 0, 12, 0), 0, 1, 1, 1, 0, 2, 9, 5, 0);
    }

    private void noLeaf() {
        layersAre(withCredit("a9", 0, 12, 0), 0, 2, 9, 6, 0);
        CreditTransfer x = withCredit("a5a9", 0, 12, 0);
        x.addCredit('a', 4, 10, 0);
        layersAre(x, 1, 2, 9, 5, 0);
        x.dropCredit(0);
        layersAre(x, 1, 2, 9, 6, 0);
    }

    private void upToFiveLayers() {
        CreditTransfer x = withCredit("[1:[1:[1:a9>13]]]", 0, 12, 0);
        layersAre(x, 0, 1, 0, 1, 0, 1, 0, 2, 9, 3, 0);
        layersAre(x, 1, 1, 0, 1, 0, 2, 9, 3, 0);
        layersAre(x, 2, 1, 0, 2, 9, 3, 0);
        layersAre(x, 3, 2, 9, 3, 0);
        CreditTransfer y = desk("a1");
        check.equal(y.layers(0), 1);
        y.addCredit('a', 1, 10, 0);
        check.equal(y.layers(0), 0);
        check.fails(ELEMENT, () -> y.why(0, 0, 0));
    }

    private void oneOrMoreBlocks() {
        hasFault("", 0);
        readsTo(new CreditTransfer(), "a1", 1);
        readsTo(new CreditTransfer(), "[1:a1]", 2);
        readsTo(new CreditTransfer(), "a1[1:a1]a1", 4);
    }

    private void textOfLeaf() {
        CreditTransfer x = desk("cab12");
        blockIs(x, 0, 0, -1, 0, 12, 60, 10, 3, 0);
        check.equal(x.letter(0, 0), 'c');
        check.equal(x.letter(0, 1), 'a');
        check.equal(x.letter(0, 2), 'b');
        hasFault("a", 1);
        hasFault("a<1", 1);
        hasFault("a>10", 1);
        hasFault("a:", 1);
        hasFault("1a", 0);
    }

    private void textOfTerm() {
        blockIs(desk("a1"), 0, 0, -1, 0, 1, 60, 10);
        blockIs(desk("a1<7"), 0, 0, -1, 0, 1, 7, 10);
        blockIs(desk("a1<0"), 0, 0, -1, 0, 1, 0, 10);
        hasFault("a1<", 3);
        hasFault("a1<a", 3);
        hasFault("a1<>12", 3);
        hasFault("a1<5<5", 4);
        hasFault("a1<100", 5);
        hasFault("[1:a1<]", 6);
    }

    private void textOfGrade() {
        blockIs(desk("a1>13"), 0, 0, -1, 0, 1, 60, 13);
        blockIs(desk("a1<7>13"), 0, 0, -1, 0, 1, 7, 13);
        blockIs(desk("a1<7"), 0, 0, -1, 0, 1, 7, 10);
        hasFault("a1>", 3);
        hasFault("a1>]", 3);
        hasFault("a1>12>12", 5);
        hasFault("a1<7>123", 7);
    }

    private void termBehindGrade() {
        hasFault("a1>12<5", 5);
        hasFault("a1>12<", 5);
        hasFault("[1:a1>12<5]", 8);
    }

    private void textOfGroup() {
        CreditTransfer x = desk("[2:a1,[1:b1],c1]");
        blockIs(x, 0, 1, -1, 3, 2, -1, -1, 0, 0);
        blockIs(x, 2, 1, 0, 1, 1, -1, -1, 0, 1);
        check.equal(x.part(0, 0), 1);
        check.equal(x.part(0, 1), 2);
        check.equal(x.part(0, 2), 4);
        hasFault("[1a1]", 2);
        hasFault("[1,a1]", 2);
        hasFault("[1:a1,]", 6);
        hasFault("[1:,a1]", 3);
        hasFault("[1:a1,,b1]", 6);
        hasFault("[1:a1b1]", 5);
        hasFault("[1:a1[1:b1]]", 5);
        hasFault("[1:[1:a1]b1]", 9);
        hasFault("[1:[1:a1][1:b1]]", 9);
        hasFault("[1:a1:", 5);
        hasFault("[1:a1]]", 6);
        hasFault("a1]", 2);
        hasFault("]", 0);
    }

    private void openBrackets() {
        readsTo(new CreditTransfer(), "[1:[1:[1:a1]]]", 4);
        hasFault("[1:[1:[1:[1:a1]]]]", 9);
        hasFault("[1:[1:[1:a1,[1:b1]]]]", 12);
        hasFault("[1:[1:[1:a1],[1:[1:b1]]]]", 16);
        // Brackets that were closed are not open.
        readsTo(new CreditTransfer(), "[2:[1:[1:a1]],[1:[1:b1]]]", 7);
        readsTo(new CreditTransfer(), "[1:[1:[1:a1]]][1:[1:[1:a1]]]", 8);
    }

    private void bracketsWhereItBegins() {
        CreditTransfer x = desk("[1:[1:[1:a1]],b1]c1");
        int[] open = {0, 1, 2, 3, 1, 0};
        for (int b = 0; b < open.length; b++) {
            check.equal(x.block(b, 7), open[b]);
        }
        CreditTransfer y = desk("[1:a1][1:b1]");
        check.equal(y.block(2, 7), 0);
        check.equal(y.block(3, 7), 1);
    }

    private void oneOrTwoDigits() {
        check.equal(desk("a9").block(0, 3), 9);
        check.equal(desk("a10").block(0, 3), 10);
        hasFault("a100", 3);
        hasFault("a123", 3);
        hasFault("a1<100", 5);
        hasFault("a1>100", 5);
        hasFault("a/", 1);
        hasFault("a:", 1);
        hasFault("a1/", 2);
        hasFault("a1:", 2);
        hasFault("a" + (char) ('1' + 256), 1);
    }

    private void leadingZeros() {
        check.equal(desk("a1<0").block(0, 4), 0);
        hasFault("a1<01", 4);
        hasFault("a01", 2);
        hasFault("a00", 2);
        hasFault("a1<00", 4);
        hasFault("a1>09", 4);
        isRefused("a0", 3);
        isRefused("a1>0", 3);
        readsTo(new CreditTransfer(), "a10<10>10", 1);
        readsTo(new CreditTransfer(), "a20<20>20", 1);
    }

    private void secondLikeLetter() {
        hasFault("aa", 1);
        hasFault("aba1", 2);
        hasFault("abcdb1", 4);
        hasFault("abcdee1", 5);
        hasFault("a1bb1", 3);
        hasFault("[1:a1,cdc1]", 8);
    }

    private void sixthLetter() {
        readsTo(new CreditTransfer(), "abcde1", 1);
        hasFault("abcdef", 5);
        hasFault("abcdea", 5);
        hasFault("a1bcdefg1", 7);
        readsTo(new CreditTransfer(), "abcde1fghij1", 2);
    }

    private void endsTooEarly() {
        String text = "[1:ab5<3>12,[1:c1]]";
        for (int length = 0; length < text.length(); length++) {
            hasFault(text.substring(0, length), length);
        }
        hasFault("a1b", 3);
        hasFault("a1[", 3);
    }

    private void rootsWithoutSigns() {
        readsTo(new CreditTransfer(), "a1b1", 2);
        readsTo(new CreditTransfer(), "[1:a1][1:b1]c1", 5);
        readsTo(new CreditTransfer(), "a1<5b1>12[1:c1]", 4);
        hasFault("a1,b1", 2);
        hasFault("a1 b1", 2);
        hasFault("[1:a1],b1", 6);
        hasFault(",a1", 0);
    }

    private void otherSigns() {
        char[] signs = {0, ' ', '\n', '-', '+', '.', ';', '=', '?', '(', 'A', '^', (char) 128, (char) 255, (char) -1};
        for (char c : signs) {
            hasFault(c + "a1", 0);
            hasFault("a" + c, 1);
            hasFault("a1" + c, 2);
            hasFault("a1<" + c, 3);
            hasFault("a1>1" + c, 4);
            hasFault("[" + c, 1);
            hasFault("[1" + c, 2);
            hasFault("[1:" + c, 3);
            hasFault("[1:a1" + c, 5);
            hasFault("[1:a1]" + c, 6);
        }
    }

    private void fiftyCharacters() {
        String full = "[1:abcde10<10>10,fghij10<10>10,klmno10<10>10]pqr1";
        check.equal(full.length(), 49);
        CreditTransfer x = new CreditTransfer();
        put(x, full);
        x.append('0');
        check.fails(STATE, () -> { x.append('0'); return 0; });
        check.equal(x.readProgram(), 5);
        check.equal(x.block(4, 3), 10);
        put(x, full);
        x.append('<');
        check.fails(STATE, () -> { x.append('9'); return 0; });
        check.fails(ARGUMENT, x::readProgram);
        check.equal(x.faultPosition(), 50);
    }

    private void sixAreKept() {
        CreditTransfer x = new CreditTransfer();
        for (int i = 0; i < 6; i++) {
            x.addCredit('a', 1, 10, 0);
            check.fails(ELEMENT, x::refusal);
        }
        check.fails(REFUSED, () -> x.addCredit('a', 1, 10, 0));
        check.equal(x.refusal(), 1);
        check.equal(x.account(0), 6);
    }

    private static CreditTransfer withForeign(int others) {
        CreditTransfer x = new CreditTransfer();
        x.addEquivalence('A', ' ', 'a', 'b');
        x.addEquivalence('A', ' ', 'a', ' ');
        x.addEquivalence('A', 'B', 'a', 'b');
        x.addEquivalence('A', 'B', 'a', ' ');
        x.addCredit('A', 5, 10, 0);
        x.addCredit('B', 5, 10, 0);
        for (int i = 0; i < others; i++) {
            x.addCredit('z', 1, 10, 0);
        }
        return x;
    }

    private void moreWouldBeKept() {
        refuses(() -> withForeign(4), 1, x -> x.apply(0));
        check.fails(ELEMENT, () -> withForeign(4).rootsBy(0));
        int[] after = {6, 6, 6, 5};
        for (int i = 1; i < 4; i++) {
            CreditTransfer six = withForeign(4);
            check.equal(six.rootsBy(i), 0);
            check.equal(six.apply(i), i == 2 ? 2 : 1);
            check.equal(six.account(0), after[i]);
            check.fails(ELEMENT, six::refusal);
        }
        CreditTransfer five = withForeign(3);
        check.equal(five.rootsBy(0), 0);
        check.equal(five.apply(0), 2);
        check.equal(five.account(0), 6);
    }

    private void noPassedCredit() {
        CreditTransfer x = new CreditTransfer();
        x.addEquivalence('A', 'B', 'a', ' ');
        check.fails(REFUSED, () -> x.apply(0));
        check.equal(x.refusal(), 2);
        x.addCredit('A', 1, 10, 0);
        x.addCredit('B', 1, 9, 0);
        x.addCredit('b', 1, 10, 0);
        check.fails(REFUSED, () -> x.apply(0));
        check.equal(x.refusal(), 2);
        check.equal(x.account(0), 3);
        x.addCredit('B', 1, 10, 0);
        check.equal(x.apply(0), 1);
    }

    private void reason2Before1() {
        CreditTransfer x = new CreditTransfer();
        x.addEquivalence('A', ' ', 'a', 'b');
        for (int i = 0; i < 6; i++) {
            x.addCredit('A', 1, 9, 0);
        }
        check.fails(REFUSED, () -> x.apply(0));
        check.equal(x.refusal(), 2);
        x.dropCredit(5);
        x.addCredit('A', 1, 10, 0);
        check.fails(REFUSED, () -> x.apply(0));
        check.equal(x.refusal(), 1);
    }

    private void outOfRange() {
        isRefused("a31", 3);
        isRefused("a1<61", 3);
        isRefused("a1>9", 3);
        isRefused("a1b1c1d0", 3);
        isRefused("[1:a1,[1:b1<61]]", 3);
    }

    private void tooManyBlocks() {
        isRefused("a1a1a1a1a1", 4);
        isRefused("[1:[1:[1:a1]]][1:[1:[1:b1]]]c1", 4);
        isRefused("a1b1c1d1e1f1g1h1i1", 4);
    }

    private void tooFewParts() {
        isRefused("[2:a1]", 5);
        isRefused("a1[1:[3:b1,c1]]", 5);
        isRefused("[1:a1][2:[1:b1]]", 5);
        isRefused("[2:[2:a1,b1]]", 5);
        readsTo(new CreditTransfer(), "[2:a1,b1]", 3);
        readsTo(new CreditTransfer(), "[2:[2:a1,b1],c1]", 5);
    }

    private void firstReasonOfAText() {
        isRefused("[2:a0]", 3);
        isRefused("a1a1a1a1a0", 3);
        isRefused("[2:a1]a1a1a1a1", 4);
        isRefused("[9:a1]a1a1a1a1b1>21", 3);
        isRefused("[2:a1][1:b1][1:[1:[1:c1]]]d1", 4);
    }

    private void faultBeforeReason() {
        hasFault("a0,", 2);
        hasFault("[2:a1]]", 6);
        hasFault("a1a1a1a1a1a", 11);
        hasFault("a31<", 4);
        CreditTransfer x = new CreditTransfer();
        put(x, "a0");
        check.fails(REFUSED, x::readProgram);
        put(x, "[9:a0,b1");
        check.fails(ARGUMENT, x::readProgram);
        check.equal(x.refusal(), 3);
        check.equal(x.faultPosition(), 8);
    }
}
