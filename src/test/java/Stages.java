/** Runs in which transaction 1 has come to a given stage. */
final class Stages {
    static final int FINAL = 3;
    static final int CONFLICT = 7;
    static final int VOID = 8;
    static final int COUNT = 10;

    private Stages() {
    }

    static int notary(int stage) {
        return stage == VOID ? Halls.PLAIN : Halls.CHECKING;
    }

    /** The number that the next transaction gets. */
    static int next(int stage) {
        return stage == CONFLICT ? 3 : 2;
    }

    /**
     * Transaction 0 is final and gives node 0 coins of 10, 20, 30 and 40 of its own.
     * Transaction 1, begun by node 0, has the coin of 10 as its input and gives it to node 2.
     */
    static Run at(Check check, String sentence, int stage) {
        int notary = notary(stage);
        Run run = new Run(check, sentence)
                .does("begin(0, " + notary + ", 0, 50)", "produce(0, 0, 0, 0, 10)", "produce(0, 0, 0, 0, 20)",
                        "produce(0, 0, 0, 0, 30)", "produce(0, 0, 0, 0, 40)")
                .finish(0)
                .does("begin(0, " + notary + ", 0, 50)", "consume(1, 0, 0)", "produce(1, 0, 0, 2, 10)");
        return lead(run, stage, notary).due("stage(1)", stage);
    }

    private static Run lead(Run run, int stage, int notary) {
        String issuedBy1 = "produce(1, 0, 1, 0, 5)";
        switch (stage) {
            case 0: return run;
            case 1: return run.does(issuedBy1, "propose(1, false)");
            case 2: return run.does("propose(1, false)");
            case 3: return run.finish(1);
            case 4: return run.does(issuedBy1, "consent(1, 0, false)").finish(1);
            case 5: return run.does("tick(50)").finish(1);
            case 6: return run.does(issuedBy1, "propose(1, true)").deliverAll();
            case 7: return run.does("consume(1, 0, 1)", "begin(0, " + notary + ", 0, 50)", "consume(2, 0, 1)")
                    .finish(2).finish(1);
            case 8: return run.does(issuedBy1, "propose(1, true)").deliverAll();
            default: return run.does("drop(1)");
        }
    }
}
