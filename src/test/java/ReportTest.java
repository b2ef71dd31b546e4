/** Promises 36 and 37: the report. */
public final class ReportTest {
    private static final Check CHECK = new Check("ReportTest");

    private ReportTest() {
    }

    public static void main(String[] args) {
        signs();
        eachCandidate();
        inPlaceOfThePrevious();
        bytes();
        CHECK.end();
    }

    private static void signs() {
        SealedBallots x = new SealedBallots();
        CHECK.isSame("the votes of a new object", Check.report(x), "####.");
        x.close();
        x.breakSeal(0, 2, 11);
        x.breakSeal(1, 4, 12);
        x.breakSeal(2, 2, 12);
        CHECK.isSame("the votes when seals are broken", Check.report(x), "24x#.");
        x.breakSeal(3, 4, 14);
        x.count();
        CHECK.isSame("the votes when they are counted", Check.report(x), "24x4.");
        x.recount(0);
        CHECK.isSame("the votes after a recount", Check.report(x), "24#4.");
        x.giveUp();
        CHECK.isSame("the votes without a ballot", Check.report(x), "-----");
        x.setUp(1, false);
        x.setLink(0, 3, false);
        x.call(0);
        x.seal(4, 9);
        CHECK.isSame("the votes of a smaller ROLL", Check.report(x), ".-.-#");
    }

    private static void eachCandidate() {
        StringBuilder text = new StringBuilder("office" + " replica 9 9;".repeat(9) + "call 0;");
        for (int r = 0; r < 9; r++) {
            text.append("vote ").append(r).append(" ").append(8 - r).append(" 0;");
        }
        text.append("close;");
        for (int r = 0; r < 9; r++) {
            text.append("break ").append(r).append(" ").append(8 - r).append(" 0;");
        }
        SealedBallots x = Check.opened(text.toString());
        CHECK.is("writeVotes() of nine", x.writeVotes(), 9);
        CHECK.isSame("the votes of nine", Check.report(x), "876543210");
    }

    private static void inPlaceOfThePrevious() {
        SealedBallots x = new SealedBallots();
        CHECK.is("writeVotes()", x.writeVotes(), 5);
        Check.load(x, "office replica 1 1; replica 2 2;");
        CHECK.is("the report before another is written", x.reportByte(4), '.');
        CHECK.is("writeVotes() of two", x.writeVotes(), 2);
        CHECK.is("its last byte", x.reportByte(1), '-');
        CHECK.is("a byte of the previous one", x.reportByte(2), -1);
        x.undo();
        CHECK.is("the report is not undone", x.reportByte(2), -1);
        CHECK.is("writeVotes is no change", x.office(17), 0);
    }

    private static void bytes() {
        SealedBallots x = new SealedBallots();
        CHECK.is("reportByte(0) before one is written", x.reportByte(0), -1);
        x.writeVotes();
        int[] due = {'#', '#', '#', '#', '.'};
        for (int index = 0; index < 5; index++) {
            CHECK.is("reportByte(" + index + ")", x.reportByte(index), due[index]);
        }
        for (int index : new int[] {-1, 5, 8, 9, 600, Integer.MAX_VALUE, Integer.MIN_VALUE}) {
            CHECK.is("reportByte(" + index + ")", x.reportByte(index), -1);
        }
    }
}
