/** The example of README.md answers what stands behind its calls there. */
final class ReadmeTests extends DeskTests {
    private ReadmeTests(Check check) {
        super(check);
    }

    static void runAll(Check check) {
        new ReadmeTests(check).example();
    }

    private void example() {
        check.begin("the example of README.md");
        CreditTransfer desk = new CreditTransfer();
        for (char c : "[1:ab5,c3<4]d6>12".toCharArray()) {
            desk.append(c);
        }
        check.equal(desk.readProgram(), 4);
        check.equal(desk.addCredit('A', 5, 14, 0), 0);
        check.equal(desk.addEquivalence('A', ' ', 'a', ' '), 0);
        check.equal(desk.rootsBy(0), 1);
        check.equal(desk.apply(0), 1);
        check.equal(desk.isMet(0), true);
        check.equal(desk.credit(0, 3), 1);
        check.equal(desk.layers(3), 1);
        check.equal(desk.why(3, 0, 1), 6);
        check.equal(desk.undo(), 3);
    }
}
