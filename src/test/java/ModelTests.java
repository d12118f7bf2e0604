/** Long runs of calls made at hazard: each answer must be that of DeskModel, and each exception too. */
final class ModelTests {
    private static final int RUNS = 600;
    /** What an object answers behind these is free. */
    private static final int CALLS = 512;
    private static final String[] TEXTS = {
        "a5", "a5b5", "ab5a5b5", "[1:a4,b3]c2", "[2:a4,ab3,c2]bc5", "[1:[2:a3,b3],c5]abc6<3",
        "[1:[1:[1:ab6>12]]]a5", "[2:a5<2,b5<4]ab9", "[2:a3,[1:bc3,c4]]c1", "abc30", "abc9ab5bc5ac5",
        "[1:a1,b1][1:b1,a1]", "[2:ab2,ab2][2:ab2,ab2]", "[2:a12,[2:b4,c3<1]]ab4", "a1>20b1<0", "[2:ab5,bc5][1:ac5]b4",
        "abcde10<5>11edcba9", "a31", "[2:a1]", "a1b1c1d1e1", "a1,b1", "[1:a1", "aa1", "[1:[1:a1]][1:[1:b1]][1:[1:c1]]"};
    private static final char[] OWN = {'a', 'b', 'c', 'a', 'b', 'd'};
    private static final char[] FOREIGN = {'A', 'B', 'A', 'C'};

    private final Hazard hazard;
    private CreditTransfer real = new CreditTransfer();
    private DeskModel model = new DeskModel();
    private String planned = "";
    private int calls = 0;

    private ModelTests(int seed) {
        hazard = new Hazard(seed);
    }

    static void runAll(Check check) {
        for (int run = 0; run < RUNS; run++) {
            new ModelTests(run).runOne(check, run);
        }
    }

    private void runOne(Check check, int run) {
        // Some runs hold many calls that are no use, to meet the exceptions; most build a desk up.
        boolean isWild = hazard.isOneOf(6);
        while (calls < CALLS) {
            step(check, "run " + run + ", call " + calls, isWild);
        }
    }

    private void step(Check check, String where, boolean isWild) {
        int kind = hazard.below(100);
        if (!planned.isEmpty() && (isWild ? kind < 50 : kind < 85)) {
            char c = planned.charAt(0);
            planned = planned.substring(1);
            same(check, where + " append " + c, () -> { real.append(c); return 0; }, () -> model.append(c));
            if (planned.isEmpty() && !hazard.isOneOf(8)) {
                same(check, where + " readProgram", real::readProgram, model::readProgram);
            }
        } else if (kind < (model.account(2) < 2 ? 30 : 2)) {
            planned = hazard.isOneOf(3) ? TEXTS[hazard.below(TEXTS.length)] : roots();
        } else if (kind < 45) {
            changing(check, where, isWild);
        } else {
            asking(check, where);
        }
    }

    private String roots() {
        StringBuilder text = new StringBuilder();
        int roots = 1 + hazard.below(3);
        for (int i = 0; i < roots; i++) {
            text.append(hazard.isOneOf(2) ? leaf() : group(3));
        }
        return text.length() <= 50 ? text.toString() : leaf() + leaf();
    }

    private String group(int depth) {
        int parts = 1 + hazard.below(3);
        StringBuilder text = new StringBuilder("[").append(1 + hazard.below(parts)).append(":");
        for (int i = 0; i < parts; i++) {
            text.append(i == 0 ? "" : ",").append(depth > 1 && hazard.isOneOf(4) ? group(depth - 1) : leaf());
        }
        return text.append("]").toString();
    }

    private String leaf() {
        String letters = new String[] {"a", "b", "ab", "abc", "bc", "cab", "d", "bd"}[hazard.below(8)];
        String term = hazard.isOneOf(3) ? "<" + hazard.below(9) : "";
        String grade = hazard.isOneOf(4) ? ">" + (10 + hazard.below(5)) : "";
        return letters + (1 + hazard.below(hazard.isOneOf(4) ? 14 : 6)) + term + grade;
    }

    private void changing(Check check, String where, boolean isWild) {
        int kind = hazard.below(isWild ? 24 : 20);
        if (kind < 9) {
            char code = hazard.isOneOf(40) ? '1' : hazard.isOneOf(3) ? pick(FOREIGN) : pick(OWN);
            int points = hazard.isOneOf(30) ? 13 * hazard.below(2) : 1 + hazard.below(hazard.isOneOf(3) ? 12 : 5);
            int grade = hazard.isOneOf(30) ? -1 + 22 * hazard.below(2) : hazard.isOneOf(4) ? hazard.below(21) : 10 + hazard.below(6);
            int year = model.year() - (hazard.isOneOf(20) ? -1 : hazard.below(4));
            same(check, where + " addCredit " + code + " " + points + " " + grade + " " + year,
                    () -> real.addCredit(code, points, grade, year), () -> model.addCredit(code, points, grade, year));
        } else if (kind < 11) {
            int credit = index(6);
            same(check, where + " dropCredit " + credit, () -> real.dropCredit(credit), () -> model.dropCredit(credit));
        } else if (kind < 14) {
            char from = hazard.isOneOf(30) ? ' ' : pick(FOREIGN);
            char second = hazard.isOneOf(2) ? ' ' : pick(FOREIGN);
            char to = hazard.isOneOf(30) ? 'A' : pick(OWN);
            char other = hazard.isOneOf(2) ? ' ' : pick(OWN);
            same(check, where + " addEquivalence " + from + second + to + other,
                    () -> real.addEquivalence(from, second, to, other), () -> model.addEquivalence(from, second, to, other));
        } else if (kind < 17) {
            int equivalence = index(6);
            same(check, where + " apply " + equivalence, () -> real.apply(equivalence), () -> model.apply(equivalence));
        } else if (kind < 19) {
            int years = hazard.isOneOf(10) ? hazard.below(70) - 3 : hazard.below(3);
            same(check, where + " pass " + years, () -> real.pass(years), () -> model.pass(years));
        } else if (kind < 20) {
            same(check, where + " undo", real::undo, model::undo);
        } else if (kind < 21) {
            same(check, where + " save", () -> { real.save(); return 0; }, model::save);
        } else if (kind < 22) {
            same(check, where + " restore", () -> { real.restore(); return 0; }, model::restore);
        } else {
            char c = (char) hazard.below(128);
            same(check, where + " append " + (int) c, () -> { real.append(c); return 0; }, () -> model.append(c));
        }
    }

    private void asking(Check check, String where) {
        int a = index(8);
        int b = index(8);
        int c = hazard.below(5) - 1;
        switch (hazard.below(22)) {
            case 0: same(check, where + " credit " + a + " " + c, () -> real.credit(a, c), () -> model.credit(a, c)); break;
            case 1: same(check, where + " code " + a, () -> real.code(a), () -> model.code(a)); break;
            case 2: same(check, where + " expires " + a + " " + b, () -> real.expires(a, b), () -> model.expires(a, b)); break;
            case 3: same(check, where + " equivalent " + a + " " + c, () -> real.equivalent(a, c), () -> model.equivalent(a, c)); break;
            case 4: same(check, where + " rootsBy " + a, () -> real.rootsBy(a), () -> model.rootsBy(a)); break;
            case 5: same(check, where + " bestEquivalence", real::bestEquivalence, model::bestEquivalence); break;
            case 6: same(check, where + " refusal", real::refusal, model::refusal); break;
            case 7: same(check, where + " faultPosition", real::faultPosition, model::faultPosition); break;
            case 8: same(check, where + " block " + a + " " + b, () -> real.block(a, b), () -> model.block(a, b)); break;
            case 9: same(check, where + " part " + a + " " + c, () -> real.part(a, c), () -> model.part(a, c)); break;
            case 10: same(check, where + " letter " + a + " " + c, () -> real.letter(a, c), () -> model.letter(a, c)); break;
            case 11: same(check, where + " accepts " + a + " " + b, () -> real.accepts(a, b), () -> model.accepts(a, b)); break;
            case 12: same(check, where + " isMet " + a, () -> real.isMet(a), () -> model.isMet(a)); break;
            case 13: same(check, where + " points " + a, () -> real.points(a), () -> model.points(a)); break;
            case 14: same(check, where + " lacks " + a, () -> real.lacks(a), () -> model.lacks(a)); break;
            case 15: same(check, where + " isComplete", real::isComplete, model::isComplete); break;
            case 16: rootsWith(check, where); break;
            case 17: same(check, where + " lapses", real::lapses, model::lapses); break;
            case 18: same(check, where + " layers " + a, () -> real.layers(a), () -> model.layers(a)); break;
            case 19: same(check, where + " why " + a + " " + c, () -> real.why(a, c, b % 3), () -> model.why(a, c, b % 3)); break;
            case 20: same(check, where + " meanGrade", real::meanGrade, model::meanGrade); break;
            default: everyAccount(check, where);
        }
    }

    private void rootsWith(Check check, String where) {
        char code = pick(OWN);
        int points = hazard.below(14);
        int grade = 9 + hazard.below(13);
        int year = model.year() + 1 - hazard.below(6);
        same(check, where + " rootsWith " + code + " " + points + " " + grade + " " + year,
                () -> real.rootsWith(code, points, grade, year), () -> model.rootsWith(code, points, grade, year));
    }

    private void everyAccount(Check check, String where) {
        same(check, where + " year", real::year, model::year);
        for (int what = -1; what <= 10; what++) {
            int asked = what;
            same(check, where + " account " + what, () -> real.account(asked), () -> model.account(asked));
        }
        for (int i = 0; i < model.account(0); i++) {
            int credit = i;
            for (int what = 0; what <= 4; what++) {
                int asked = what;
                same(check, where + " credit " + i + " " + what, () -> real.credit(credit, asked), () -> model.credit(credit, asked));
            }
        }
    }

    private void same(Check check, String call, Check.Call got, Check.Call due) {
        if (calls >= CALLS) {
            return;
        }
        calls++;
        check.begin(call);
        check.equal(Check.outcome(got), modelOutcome(due));
    }

    private static String modelOutcome(Check.Call due) {
        try {
            return String.valueOf(due.answer());
        } catch (RuntimeException e) {
            return e.getClass().getName();
        }
    }

    /** Mostly a number below the bound, at times one below 0 or far above. */
    private int index(int bound) {
        return hazard.isOneOf(25) ? hazard.isOneOf(2) ? -1 : Integer.MAX_VALUE : hazard.below(bound);
    }

    private char pick(char[] from) {
        return from[hazard.below(from.length)];
    }
}
