/**
 * The boundaries of promises 13 to 21. Each run bears the number of its promise and the words that name the boundary.
 * No question changes anything, so each one just outside is looked at as a refused call is.
 */
public final class QuestionEdgesTest {
    private static final int LEAST = Integer.MIN_VALUE;
    private static final int MOST = Integer.MAX_VALUE;
    private static final int[] NO_NODE = {LEAST, -1, 4, 5, 32, MOST};

    private static final Check check = new Check();

    public static void main(String[] args) {
        noTransaction();
        lastTransaction();
        stages();
        signatures();
        verdicts();
        spenderOfNoState();
        spenderOfNeighbours();
        standing();
        vaultPlaces();
        vaultFull();
        balance();
        fetched();
        treeRange();
        treeLeavesOfNothing();
        treeLeavesAtTheirEnds();
        treeWraps();
        treeAsItIsNow();
        questionsChangeNothing();
        check.end();
    }

    private static Run run(String sentence) {
        return new Run(check, sentence);
    }

    /** Transaction 0 is final: node 3 has issued 5 to itself and 6 to node 0. */
    private static Run issued(String sentence) {
        return run(sentence)
                .does("begin(3, 5, 0, 9)", "produce(0, 0, 3, 3, 5)", "produce(0, 0, 3, 0, 6)")
                .finish(0);
    }

    // ---- transactions that are not there

    private static void noTransaction() {
        Run run = issued("13 to 17, 21: there is no transaction t");
        for (int t : new int[] {LEAST, -20, -1, 1, 19, 20, 21, 32, MOST}) {
            outside(run, t);
        }
        outside(run("13 to 17, 21: there is none at all"), 0);
    }

    private static void outside(Run run, int t) {
        run.refused("stage(" + t + ")", -1)
                .refused("signatures(" + t + ", true)", -1)
                .refused("signatures(" + t + ", false)", -1)
                .refused("verdict(" + t + ")", -1)
                .refused("spender(" + t + ", 0)", -1)
                .refused("standing(0, " + t + ")", -1)
                .refused("tree(" + t + ", 0, 0)", 0)
                .refused("tree(" + t + ", 4, 0)", 0);
    }

    private static void lastTransaction() {
        Run run = run("13 to 17, 21: transactions 0 and 19");
        for (int t = 0; t < 20; t++) {
            run.does("begin(2, 5, 0, 9)");
        }
        for (int t = 0; t < 20; t += 19) {
            run.due("stage(" + t + ")", 0)
                    .due("signatures(" + t + ", true)", 4)
                    .due("signatures(" + t + ", false)", 0)
                    .due("verdict(" + t + ")", 0)
                    .due("standing(2, " + t + ")", 0)
                    .due("tree(" + t + ", 0, 15)", t)
                    .due("tree(" + t + ", 0, 0)", 5);
        }
        run.due("stage(20)", -1)
                .due("signatures(20, true)", -1)
                .due("signatures(20, false)", -1)
                .due("verdict(20)", -1)
                .due("standing(2, 20)", -1)
                .due("tree(20, 0, 0)", 0);
    }

    // ---- promises 13 to 15

    private static void stages() {
        for (int stage = 0; stage < Stages.COUNT; stage++) {
            Stages.at(check, "13: the stage of t", stage).due("stage(1)", stage).due("stage(0)", 3);
        }
    }

    private static void signatures() {
        int[] signed = {0, 1, 1, 1, 1, 1, 1, 1, 1, 0};
        int[] needed = {1, 3, 1, 1, 3, 1, 3, 1, 3, 1};
        for (int stage = 0; stage < Stages.COUNT; stage++) {
            Stages.at(check, "14: the nodes whose signature is there (0 before t is proposed)", stage)
                    .due("signatures(1, false)", signed[stage])
                    .due("signatures(1, true)", needed[stage]);
        }
        Run run = run("14: all four nodes").does("begin(2, 4, 0, 9)");
        for (int issuer = 0; issuer < 4; issuer++) {
            run.does("produce(0, 0, " + issuer + ", 2, 1)");
        }
        run.due("signatures(0, true)", 15).due("signatures(0, false)", 0).does("propose(0, false)")
                .due("signatures(0, false)", 4);
        run.deliverAll().due("signatures(0, false)", 15);
    }

    private static void verdicts() {
        int[] verdicts = {0, 0, 0, 1, 0, 2, 3, 4, 1, 0};
        for (int stage = 0; stage < Stages.COUNT; stage++) {
            Stages.at(check, "15: 0 when it has given none", stage).due("verdict(1)", verdicts[stage]);
        }
    }

    // ---- promise 16

    private static void spenderOfNoState() {
        Run run = Stages.at(check, "16: -1 when there is no such state", Stages.FINAL);
        run.due("spender(0, 0)", 1).due("spender(0, 3)", -1);
        for (int o : new int[] {LEAST, -4, -1, 4, MOST}) {
            run.refused("spender(0, " + o + ")", -1);
        }
        run.refused("spender(1, 1)", -1).refused("spender(2, 0)", -1).due("spender(1, 0)", -1);
    }

    private static void spenderOfNeighbours() {
        Run run = run("16: a place outside is not the neighbour's state")
                .does("begin(0, 4, 0, 9)", "produce(0, 0, 0, 0, 1)", "produce(0, 0, 0, 0, 1)",
                        "produce(0, 0, 0, 0, 1)", "produce(0, 0, 0, 0, 1)")
                .finish(0)
                .does("begin(0, 4, 0, 9)", "produce(1, 0, 0, 0, 1)")
                .finish(1)
                .does("begin(0, 4, 0, 9)", "consume(2, 1, 0)", "consume(2, 0, 3)")
                .finish(2);
        run.due("spender(1, 0)", 2)
                .due("spender(0, 3)", 2)
                .refused("spender(0, 4)", -1)
                .refused("spender(1, -1)", -1)
                .refused("spender(2, -4)", -1);
    }

    // ---- promise 17

    private static void standing() {
        Run run = issued("17: -1 when there is no such node or transaction");
        for (int node : NO_NODE) {
            run.refused("standing(" + node + ", 0)", -1).refused("standing(" + node + ", 1)", -1);
        }
        run.due("standing(0, 0)", 2).due("standing(1, 0)", 0).due("standing(2, 0)", 0).due("standing(3, 0)", 2);
        run.does("begin(3, 5, 0, 9)", "consume(1, 0, 0)", "produce(1, 0, 3, 2, 5)")
                .finish(1)
                .due("standing(2, 0)", 1)
                .due("standing(2, 1)", 2)
                .due("standing(0, 1)", 0);
    }

    // ---- promise 18

    private static void vaultPlaces() {
        Run run = issued("18: -1 when there is no such node or place");
        for (int node : NO_NODE) {
            run.refused("vault(" + node + ", 0)", -1).refused("vault(" + node + ", -1)", -1);
        }
        for (int k : new int[] {LEAST, -2, 1, 2, MOST}) {
            run.refused("vault(0, " + k + ")", -1).refused("vault(3, " + k + ")", -1);
        }
        run.due("vault(0, -1)", 1).due("vault(0, 0)", 1).due("vault(3, -1)", 1).due("vault(3, 0)", 0);
        run.due("vault(1, -1)", 0).due("vault(1, 0)", -1).due("vault(1, -2)", -1);
    }

    /** Twenty transactions of four coins each: the greatest vault, the greatest number and the greatest balance. */
    private static void vaultFull() {
        Run run = run("18: the number of the state at place k, all 80 states");
        for (int t = 0; t < 20; t++) {
            run.does("begin(2, 5, 0, 9)");
            for (int o = 0; o < 4; o++) {
                run.does("produce(" + t + ", 0, 2, 2, 1000)");
            }
            run.finish(t);
        }
        run.due("vault(2, -1)", 80).due("vault(2, 80)", -1).due("balance(2, 2)", 80000).due("begin(2, 5, 0, 9)", -6);
        for (int k = 0; k < 80; k++) {
            run.due("vault(2, " + k + ")", k);
        }
        run.due("spender(19, 3)", -1).due("spender(20, 0)", -1);
    }

    // ---- promises 19 and 20

    private static void balance() {
        Run run = issued("19: -1 when one of them is not 0 .. 3");
        for (int node : NO_NODE) {
            run.refused("balance(" + node + ", 3)", -1).refused("balance(3, " + node + ")", -1);
        }
        run.due("balance(3, 3)", 5).due("balance(0, 3)", 6).due("balance(3, 0)", 0).due("balance(0, 0)", 0);
        run("19: the CASH in the node's vault")
                .does("begin(0, 4, 0, 9)", "produce(0, 0, 0, 0, 1000)", "produce(0, 1, 0, 1, 700)",
                        "produce(0, 2, 0, 0, 600)", "produce(0, 0, 0, 0, 1)")
                .due("balance(0, 0)", 0)
                .finish(0)
                .due("balance(0, 0)", 1001)
                .due("balance(1, 0)", 0)
                .does("begin(0, 4, 0, 9)", "consume(1, 0, 0)", "propose(1, false)", "deliver(0, false)")
                .due("balance(0, 0)", 1001)
                .does("deliver(0, false)")
                .due("balance(0, 0)", 1);
    }

    private static void fetched() {
        Run run = issued("20: -1 when there is no such node");
        for (int node : NO_NODE) {
            run.refused("fetched(" + node + ")", -1);
        }
        for (int node = 0; node < 4; node++) {
            run.due("fetched(" + node + ")", 0);
        }
        run.does("begin(0, 5, 0, 9)", "consume(1, 0, 1)", "produce(1, 0, 3, 2, 6)")
                .finish(1)
                .due("fetched(2)", 1)
                .due("fetched(0)", 0)
                .due("fetched(3)", 0);
    }

    // ---- promise 21

    private static void treeRange() {
        Run run = run("21: 0 when h or i is out of range").does("begin(3, 5, 7, 9)", "produce(0, 0, 1, 2, 77)");
        for (int h : new int[] {LEAST, -32, -1, 5, 6, 31, 32, 33, 36, MOST}) {
            run.refused("tree(0, " + h + ", 0)", 0);
        }
        for (int h = 0; h <= 4; h++) {
            int values = 16 >> h;
            for (int i : new int[] {LEAST, -1, values, values + 1, 16, 17, MOST}) {
                run.refused("tree(0, " + h + ", " + i + ")", 0);
            }
            check.due("21: the first value at height " + h, run.answers("tree(0, " + h + ", 0)") != 0, true);
        }
        for (int h = 1; h <= 4; h++) {
            int last = (16 >> h) - 1;
            check.due("21: the last value at height " + h, run.answers("tree(0, " + h + ", " + last + ")") != 0, true);
        }
        run.does("begin(0, 4, 0, 9)").due("tree(1, 0, 15)", 1);
    }

    private static void treeLeavesOfNothing() {
        int[] leaves = {4, 0, 1, 0, 0, 0, 0, 0, 0, 0, 0, 0, 1, 0, 0, 0};
        Run run = run("21: leaves of inputs and outputs that are not there are 0").does("begin(0, 4, 0, 1)");
        for (int i = 0; i < 16; i++) {
            run.due("tree(0, 0, " + i + ")", leaves[i]);
        }
    }

    /** The greatest leaves: the last window, inputs of transaction 18, four bound outputs, all must sign, t = 19. */
    private static void treeLeavesAtTheirEnds() {
        Run run = run("21: the 16 leaves at their greatest");
        for (int t = 0; t < 18; t++) {
            run.does("begin(0, 5, 0, 9)");
        }
        run.does("begin(3, 5, 0, 9)");
        for (int o = 0; o < 4; o++) {
            run.does("produce(18, 0, 3, " + o + ", 1000)");
        }
        run.finish(18).does("begin(3, 5, 999999, 1000000)");
        for (int o = 3; o >= 0; o--) {
            run.does("consume(19, 18, " + o + ")");
        }
        run.does("produce(19, 0, 3, 3, 1000)", "produce(19, 1, 3, 2, 1000)", "produce(19, 2, 0, 0, 1000)",
                "produce(19, 0, 0, 0, 1)", "bind(19, 0, 3)", "bind(19, 1, 2)", "bind(19, 2, 1)", "bind(19, 3, 0)");
        int[] leaves = {5, 999999, 1000000, 1 + 75, 1 + 74, 1 + 73, 1 + 72, 3,
            1 + 3 * (3 + 4 * (3 + 4 * (1000 + 1024 * 4))), 2 + 3 * (3 + 4 * (2 + 4 * (1000 + 1024 * 3))),
            3 + 3 * 16 * (1000 + 1024 * 2), 1 + 3 * 16 * (1 + 1024), 15, 0, 0, 19};
        for (int i = 0; i < 16; i++) {
            run.due("tree(19, 0, " + i + ")", leaves[i]);
        }
        run.due("tree(19, 0, 16)", 0);
        aboveLeaves(run, 19, leaves);
        lastStateAsInput();
    }

    /** State 19, 3, whose number is 79, becomes an input of transaction 0. */
    private static void lastStateAsInput() {
        Run run = run("21: 1 + the number of the state, the last one");
        for (int t = 0; t < 20; t++) {
            run.does("begin(1, 4, 0, 9)");
        }
        for (int o = 0; o < 4; o++) {
            run.does("produce(19, 2, 0, 0, 1)");
        }
        run.finish(19).due("consume(0, 19, 3)", 0).due("tree(0, 0, 3)", 80).due("tree(0, 0, 4)", 0);
    }

    /** The values above given leaves, reckoned without ints that wrap. */
    private static void aboveLeaves(Run run, int t, int[] leaves) {
        int[] below = leaves;
        for (int h = 1; h <= 4; h++) {
            int[] values = new int[below.length / 2];
            for (int i = 0; i < values.length; i++) {
                long whole = 31L * below[2 * i] + 17L * below[2 * i + 1] + 7;
                long m = Math.floorMod(whole, 1L << 32);
                values[i] = (int) (m ^ m / 8192);
                run.due("tree(" + t + ", " + h + ", " + i + ")", values[i]);
            }
            below = values;
        }
    }

    private static void treeWraps() {
        Run run = run("21: MIX in ints that wrap").does("begin(3, 5, 999999, 1000000)");
        int[] leaves = {5, 999999, 1000000, 0, 0, 0, 0, 3, 0, 0, 0, 0, 8, 0, 0, 0};
        aboveLeaves(run, 0, leaves);
        // Told outright, lest both reckonings err alike: the first is below the wrap, the second past it.
        run.due("tree(0, 1, 0)", 17002186).due("tree(0, 4, 0)", -532060730);
    }

    private static void treeAsItIsNow() {
        Run run = run("21: the tree of t as it is now").does("begin(0, 4, 0, 9)");
        String[] changes = {"produce(0, 0, 0, 0, 1)", "produce(0, 0, 1, 0, 1)", "bind(0, 0, 1)", "bind(0, 0, -1)"};
        int[] leaf12 = {1, 3, 3, 3};
        int before = run.answers("tree(0, 4, 0)");
        for (int i = 0; i < changes.length; i++) {
            run.does(changes[i]).due("tree(0, 0, 12)", leaf12[i]);
            int now = run.answers("tree(0, 4, 0)");
            check.due("21: the root after " + changes[i] + " is another", now != before, true);
            before = now;
        }
        run.does("drop(0)").due("tree(0, 4, 0)", before);
        Run proposed = run("21: a proposal changes no leaf").does("begin(0, 4, 0, 9)", "produce(0, 0, 1, 0, 1)");
        int draft = proposed.answers("tree(0, 4, 0)");
        proposed.does("propose(0, false)").due("tree(0, 4, 0)", draft);
        proposed.deliverAll().due("stage(0)", 3).due("tree(0, 4, 0)", draft);
    }

    // ---- no question changes anything

    private static void questionsChangeNothing() {
        String[] questions = {"stage(1)", "signatures(1, true)", "signatures(1, false)", "verdict(1)",
            "spender(0, 0)", "standing(0, 1)", "vault(0, -1)", "vault(0, 0)", "balance(0, 0)", "fetched(0)",
            "tree(1, 4, 0)", "message(-1)", "message(0)", "tick(0)"};
        for (int stage = 0; stage < Stages.COUNT; stage++) {
            Run run = Stages.at(check, "13 to 21: a question changes nothing", stage);
            for (String question : questions) {
                run.refused(question, run.fork().answers(question));
            }
        }
    }
}
