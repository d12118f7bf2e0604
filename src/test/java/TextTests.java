import java.util.List;

/** Reads many texts and compares with TextModel: all short ones of a few signs, and longer ones made at hazard. */
final class TextTests {
    private static final String SIGNS = "[]:,<>0129abz A";
    private static final String[] PIECES = {
        "[", "]", "1", "2", ":", ",", "[1:", "[2:", "a", "b", "c", "abcde", "f", "0", "30", "31", "<", ">", "<5",
        "<60", "<61", ">10", ">9", ">20", ">21", "a1", "b2", "c12", "d1<3>11", "[1:a1]", "[1:b1,c1]", "[1:[1:",
        "]]", "]]]", ",a1", ",[1:", "[3:a1,b1]", "A", " "};

    private TextTests() {
    }

    static void runAll(Check check) {
        check.begin("texts, promises 12 to 18");
        shortTexts(check, "", "[]1:,a<", 7);
        shortTexts(check, "[1:[1:", "[]1:,a", 6);
        shortTexts(check, "a1", "0<>1a,][", 5);
        shortTexts(check, "", SIGNS, 3);
        longTexts(check, 40000);
    }

    /** The texts that begin with all signs but the last one taken; the others have the fault of a shorter one. */
    private static void shortTexts(Check check, String beginning, String signs, int more) {
        for (int i = 0; i < signs.length(); i++) {
            String text = beginning + signs.charAt(i);
            int fault = compare(check, text);
            if (more > 1 && (fault == -1 || fault == text.length())) {
                shortTexts(check, text, signs, more - 1);
            }
        }
    }

    private static void longTexts(Check check, int count) {
        Hazard hazard = new Hazard(7);
        for (int n = 0; n < count; n++) {
            StringBuilder text = new StringBuilder();
            int pieces = 1 + hazard.below(16);
            for (int i = 0; i < pieces; i++) {
                int before = text.length();
                text.append(PIECES[hazard.below(PIECES.length)]);
                // Mostly take back what cannot go on, or nearly no text would be without fault.
                int fault = TextModel.faultOf(text.toString());
                if (text.length() > 50 || fault != -1 && fault < text.length() && hazard.below(40) > 0) {
                    text.setLength(before);
                }
            }
            compare(check, text.toString());
        }
    }

    private static int compare(Check check, String text) {
        CreditTransfer x = new CreditTransfer();
        for (int i = 0; i < text.length(); i++) {
            x.append(text.charAt(i));
        }
        int fault = TextModel.faultOf(text);
        check.begin("text \"" + text + "\"");
        if (fault != -1) {
            check.fails(IllegalArgumentException.class, x::readProgram);
        } else {
            List<TextModel.Node> blocks = TextModel.blocksOf(text);
            int reason = TextModel.reasonAgainst(blocks);
            if (reason != 0) {
                check.fails(UnsupportedOperationException.class, x::readProgram);
                check.equal(x.refusal(), reason);
            } else {
                check.equal(x.readProgram(), blocks.size());
                compareBlocks(check, x, blocks);
            }
        }
        check.equal(x.faultPosition(), fault);
        return fault;
    }

    private static void compareBlocks(Check check, CreditTransfer x, List<TextModel.Node> blocks) {
        for (TextModel.Node n : blocks) {
            int[] due = {n.isLeaf() ? 0 : 1, n.parent == null ? -1 : n.parent.number, n.parts.size(), n.need,
                n.term, n.grade, n.letters.length(), n.depth};
            for (int what = 0; what < due.length; what++) {
                check.equal(x.block(n.number, what), due[what]);
            }
            for (int i = 0; i < n.parts.size(); i++) {
                check.equal(x.part(n.number, i), n.parts.get(i).number);
            }
            for (int i = 0; i < n.letters.length(); i++) {
                check.equal(x.letter(n.number, i), n.letters.charAt(i));
            }
        }
    }
}
