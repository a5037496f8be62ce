/**
 * The boundaries of promises 1 to 8. Each run bears the number of its promise and the words that name the boundary;
 * it makes the call just inside, the call just outside, and looks whether a refused call has changed anything.
 */
public final class BuildingEdgesTest {
    private static final int BAD = -1;
    private static final int NOT_DRAFT = -2;
    private static final int UNKNOWN = -3;
    private static final int OTHER_NOTARY = -4;
    private static final int TWICE = -5;
    private static final int ROOM = -6;
    private static final int SHORT = -7;
    private static final int INVALID = -8;
    private static final int LEAST = Integer.MIN_VALUE;
    private static final int MOST = Integer.MAX_VALUE;

    private static final Check check = new Check();

    public static void main(String[] args) {
        newObject();
        beginNode();
        beginNotary();
        beginWindow();
        beginRoom();
        beginIsEmpty();
        consumeTransaction();
        consumeState();
        consumeUnknown();
        consumeOtherNotary();
        consumeTwice();
        consumeRoom();
        consumeFirstRefusal();
        produceTransaction();
        produceKind();
        produceCash();
        produceDebt();
        produceLock();
        produceAmount();
        produceRoom();
        produceFirstRefusal();
        bindPlaces();
        bindToNothingElse();
        bindOneOutput();
        bindFirstRefusal();
        payNumbers();
        payShort();
        payManyCoins();
        payUntilAtLeast();
        payRest();
        payRoomForInputs();
        payRoomForOutputs();
        payFirstRefusal();
        payCoinsAreCash();
        payCoinsAreOfTheIssuer();
        payCoinsAreNotBound();
        payCoinsAreOfTheNotary();
        payCoinsAreInTheVault();
        payCoinsInAscendingOrder();
        payCoinsAreNotHeld();
        payCoinsHeldByAnother();
        dropOnlyDrafts();
        notDraftAtEveryStage();
        proposeTransaction();
        proposeEmpty();
        proposeBound();
        proposeLock();
        proposeAlone();
        proposeSends();
        proposeFirstRefusal();
        check.end();
    }

    private static Run run(String sentence) {
        return new Run(check, sentence);
    }

    // ---- promise 1

    private static void newObject() {
        Run run = run("1: no transactions, no messages; no node knows anything")
                .due("stage(0)", -1)
                .due("message(-1)", 0)
                .due("message(0)", -1)
                .due("tick(0)", 0)
                .refused("deliver(0, false)", -1);
        for (int node = 0; node < 4; node++) {
            run.due("vault(" + node + ", -1)", 0).due("vault(" + node + ", 0)", -1).due("fetched(" + node + ")", 0);
        }
        run.due("begin(0, 4, 0, 1)", 0);
        for (int node = 0; node < 4; node++) {
            run.due("standing(" + node + ", 0)", 0);
        }
        for (int node = 0; node < 4; node++) {
            for (int other = 0; other < 4; other++) {
                if (node != other) {
                    askOne(run("1: every node consents to every other"), node, other).due("stage(0)", 3);
                }
            }
        }
    }

    private static Run askOne(Run run, int node, int initiator) {
        return run.does("begin(" + initiator + ", 4, 0, 9)", "produce(0, 0, " + node + ", " + initiator + ", 1)")
                .finish(0);
    }

    // ---- promise 2

    private static void beginNode() {
        Run run = run("2: BAD when node is not 0 .. 3").due("begin(0, 4, 0, 1)", 0);
        for (int node : new int[] {LEAST, -1, 4, 5, MOST}) {
            run.refused("begin(" + node + ", 4, 0, 1)", BAD);
        }
        run.due("begin(3, 4, 0, 1)", 1).due("tree(0, 0, 7)", 0).due("tree(1, 0, 7)", 3);
    }

    private static void beginNotary() {
        Run run = run("2: BAD when notary is not 4 or 5").due("begin(0, 4, 0, 1)", 0);
        for (int notary : new int[] {LEAST, -1, 0, 3, 6, MOST}) {
            run.refused("begin(0, " + notary + ", 0, 1)", BAD);
        }
        run.due("begin(0, 5, 0, 1)", 1).due("tree(0, 0, 0)", 4).due("tree(1, 0, 0)", 5);
    }

    private static void beginWindow() {
        int[][] outside = {{-1, 1}, {LEAST, 1}, {LEAST, MOST}, {0, 0}, {1, 1}, {2, 1}, {5, -5}, {0, 1000001},
            {999999, 1000001}, {1000000, 1000000}, {1000000, 1000001}, {0, MOST}, {MOST, LEAST}, {MOST, MOST}};
        Run run = run("2: BAD when not 0 <= from < until <= 1000000").due("begin(0, 4, 0, 1)", 0);
        for (int[] window : outside) {
            run.refused("begin(0, 4, " + window[0] + ", " + window[1] + ")", BAD);
        }
        run.due("begin(0, 4, 0, 1000000)", 1)
                .due("begin(0, 4, 999999, 1000000)", 2)
                .due("begin(0, 4, 1, 2)", 3)
                .due("tree(2, 0, 1)", 999999)
                .due("tree(2, 0, 2)", 1000000);
    }

    private static Run nineteen(String sentence) {
        Run run = run(sentence);
        for (int t = 0; t < 19; t++) {
            run.due("begin(" + t % 4 + ", " + (4 + t % 2) + ", 0, 1)", t);
        }
        return run;
    }

    private static void beginRoom() {
        nineteen("2: ROOM when there are 20")
                .due("stage(19)", -1)
                .due("begin(3, 5, 0, 1)", 19)
                .refused("begin(0, 4, 0, 1)", ROOM)
                .due("stage(19)", 0)
                .due("stage(20)", -1);
        nineteen("2: ROOM when there are 20, the dropped ones among them")
                .does("drop(0)", "begin(0, 4, 0, 1)")
                .refused("begin(0, 4, 0, 1)", ROOM);
        nineteen("2: BAD is named before ROOM")
                .does("begin(0, 4, 0, 1)")
                .refused("begin(4, 4, 0, 1)", BAD)
                .refused("begin(0, 3, 0, 1)", BAD)
                .refused("begin(0, 4, 1, 1)", BAD);
    }

    private static void beginIsEmpty() {
        Run run = run("2: a DRAFT without inputs and outputs").does("begin(2, 5, 7, 8)").due("stage(0)", 0);
        for (int i = 0; i < 4; i++) {
            run.due("tree(0, 0, " + (3 + i) + ")", 0).due("tree(0, 0, " + (8 + i) + ")", 0);
        }
        run.due("signatures(0, false)", 0).due("signatures(0, true)", 4).due("verdict(0)", 0);
    }

    // ---- promise 3

    /** Transaction 0 is final: node 0 owns 10, 20, 30 and 40. Transaction 1 is its next draft. */
    private static Run fourCoins(String sentence) {
        return run(sentence)
                .does("begin(0, 4, 0, 9)", "produce(0, 0, 0, 0, 10)", "produce(0, 0, 0, 0, 20)",
                        "produce(0, 0, 0, 0, 30)", "produce(0, 0, 0, 0, 40)")
                .finish(0)
                .does("begin(0, 4, 0, 9)");
    }

    private static void consumeTransaction() {
        Run run = fourCoins("3: BAD when there is no transaction t");
        for (int t : new int[] {LEAST, -1, 2, 20, MOST}) {
            run.refused("consume(" + t + ", 0, 0)", BAD);
        }
        run.due("consume(1, 0, 0)", 0);
    }

    private static void consumeState() {
        Run run = fourCoins("3: BAD when there is no state u, o");
        for (int u : new int[] {LEAST, -1, 2, 20, MOST}) {
            run.refused("consume(1, " + u + ", 0)", BAD);
        }
        for (int o : new int[] {LEAST, -1, 4, 5, MOST}) {
            run.refused("consume(1, 0, " + o + ")", BAD);
        }
        run.due("consume(1, 0, 0)", 0).due("consume(1, 0, 3)", 1);
        Run two = run("3: no state u, o beyond the outputs that are there")
                .does("begin(0, 4, 0, 9)", "produce(0, 0, 0, 0, 10)", "produce(0, 0, 0, 0, 20)")
                .finish(0)
                .does("begin(0, 4, 0, 9)", "produce(1, 0, 0, 0, 1)", "begin(0, 4, 0, 9)")
                .refused("consume(1, 0, 2)", BAD)
                .refused("consume(1, 2, 0)", BAD);
        // State 1, -3 would have the number of state 0, 1, and state 0, 4 that of 1, 0.
        two.refused("consume(2, 1, -3)", BAD).refused("consume(2, 0, 4)", BAD).due("consume(1, 0, 1)", 0);
    }

    private static void consumeUnknown() {
        run("3: UNKNOWN, the initiator's own that is not FINAL yet")
                .does("begin(0, 4, 0, 9)", "produce(0, 0, 0, 0, 10)", "begin(0, 4, 0, 9)")
                .refused("consume(0, 0, 0)", UNKNOWN)
                .refused("consume(1, 0, 0)", UNKNOWN)
                .does("propose(0, false)")
                .refused("consume(1, 0, 0)", UNKNOWN)
                .does("deliver(0, false)")
                .refused("consume(1, 0, 0)", UNKNOWN)
                .does("deliver(0, false)")
                .due("consume(1, 0, 0)", 0);
        run("3: UNKNOWN until FINALITY has come")
                .does("begin(0, 4, 0, 9)", "produce(0, 0, 0, 1, 10)", "propose(0, false)", "deliver(0, false)",
                        "deliver(0, false)", "begin(1, 4, 0, 9)", "begin(2, 4, 0, 9)")
                .refused("consume(1, 0, 0)", UNKNOWN)
                .does("deliver(0, false)")
                .due("consume(1, 0, 0)", 0)
                .refused("consume(2, 0, 0)", UNKNOWN);
        fourCoins("3: a transaction that was only fetched is known")
                .does("consume(1, 0, 0)", "produce(1, 0, 0, 1, 10)", "begin(1, 4, 0, 9)")
                .refused("consume(2, 0, 1)", UNKNOWN)
                .finish(1)
                .due("standing(1, 0)", 1)
                .due("consume(2, 0, 1)", 0);
        run("3: UNKNOWN, a VOID transaction")
                .does("begin(0, 5, 0, 9)", "produce(0, 0, 1, 0, 10)", "propose(0, true)")
                .deliverAll()
                .due("stage(0)", 8)
                .does("begin(0, 5, 0, 9)", "begin(1, 5, 0, 9)")
                .refused("consume(1, 0, 0)", UNKNOWN)
                .refused("consume(2, 0, 0)", UNKNOWN);
    }

    private static void consumeOtherNotary() {
        for (int notary = 4; notary <= 5; notary++) {
            run("3: OTHER_NOTARY than " + notary)
                    .does("begin(0, " + notary + ", 0, 9)", "produce(0, 0, 0, 0, 10)")
                    .finish(0)
                    .does("begin(0, " + (9 - notary) + ", 0, 9)", "begin(0, " + notary + ", 0, 9)")
                    .refused("consume(1, 0, 0)", OTHER_NOTARY)
                    .due("consume(2, 0, 0)", 0);
        }
    }

    private static void consumeTwice() {
        fourCoins("3: TWICE")
                .does("begin(0, 4, 0, 9)", "produce(2, 0, 0, 0, 50)")
                .finish(2)
                .due("consume(1, 0, 0)", 0)
                .refused("consume(1, 0, 0)", TWICE)
                .due("consume(1, 2, 0)", 1)
                .refused("consume(1, 2, 0)", TWICE)
                .refused("consume(1, 0, 0)", TWICE)
                .due("consume(1, 0, 1)", 2)
                .does("begin(0, 4, 0, 9)")
                .due("consume(3, 0, 0)", 0);
        fourCoins("3: TWICE, what pay has taken").does("pay(1, 0, 1, 10)").refused("consume(1, 0, 0)", TWICE);
    }

    private static void consumeRoom() {
        fourCoins("3: ROOM for 4 inputs, places 0 .. 3")
                .does("begin(0, 4, 0, 9)", "produce(2, 0, 0, 0, 50)")
                .finish(2)
                .due("consume(1, 0, 3)", 0)
                .due("consume(1, 0, 2)", 1)
                .due("consume(1, 2, 0)", 2)
                .due("consume(1, 0, 0)", 3)
                .refused("consume(1, 0, 1)", ROOM)
                .due("tree(1, 0, 3)", 4)
                .due("tree(1, 0, 4)", 3)
                .due("tree(1, 0, 5)", 9)
                .due("tree(1, 0, 6)", 1);
        // Going on, node 1 fetches for transaction 1, so that it would be seen if the refused one came with it.
        fiveCoins("3: ROOM, a fifth input from another transaction")
                .does("produce(1, 0, 0, 1, 100)", "consume(1, 0, 0)", "consume(1, 0, 1)", "consume(1, 0, 2)",
                        "consume(1, 0, 3)")
                .refused("consume(1, 2, 0)", ROOM);
    }

    private static void consumeFirstRefusal() {
        Run run = fourCoins("3: the refusal named first")
                .does("consume(1, 0, 0)", "begin(1, 5, 0, 9)", "begin(0, 5, 0, 9)", "produce(3, 0, 0, 0, 50)")
                .finish(3)
                .does("begin(1, 4, 0, 9)", "produce(4, 0, 1, 1, 60)")
                .finish(4);
        run.refused("consume(2, 0, 0)", UNKNOWN);
        Run full = run.fork().does("consume(1, 0, 1)", "consume(1, 0, 2)", "consume(1, 0, 3)");
        full.refused("consume(1, 0, 4)", BAD)
                .refused("consume(1, 4, 0)", UNKNOWN)
                .refused("consume(1, 3, 0)", OTHER_NOTARY)
                .refused("consume(1, 0, 3)", TWICE);
        full.does("drop(1)")
                .refused("consume(1, 0, 4)", BAD)
                .refused("consume(1, 9, 0)", BAD)
                .refused("consume(1, 4, 0)", NOT_DRAFT)
                .refused("consume(1, 3, 0)", NOT_DRAFT)
                .refused("consume(1, 0, 3)", NOT_DRAFT);
    }

    // ---- promise 4

    private static Run oneDraft(String sentence) {
        return run(sentence).does("begin(0, 4, 0, 9)");
    }

    private static void produceTransaction() {
        Run run = oneDraft("4: BAD when there is no transaction t");
        for (int t : new int[] {LEAST, -1, 1, 20, MOST}) {
            run.refused("produce(" + t + ", 0, 0, 0, 1)", BAD);
        }
        run.due("produce(0, 0, 0, 0, 1)", 0);
    }

    private static void produceKind() {
        Run run = oneDraft("4: BAD when kind is not 0 .. 2").due("produce(0, 0, 0, 0, 1)", 0);
        for (int kind : new int[] {LEAST, -1, 3, MOST}) {
            run.refused("produce(0, " + kind + ", 0, 0, 1)", BAD).refused("produce(0, " + kind + ", 0, 1, 1)", BAD);
        }
        run.due("produce(0, 2, 0, 0, 1)", 1).due("tree(0, 0, 8)", 1 + 48).due("tree(0, 0, 9)", 3 + 48);
    }

    private static void produceCash() {
        Run run = oneDraft("4: CASH that node a has issued and node b owns (a = b too)");
        for (int n : new int[] {LEAST, -1, 4, MOST}) {
            run.refused("produce(0, 0, " + n + ", 0, 1)", BAD).refused("produce(0, 0, 0, " + n + ", 1)", BAD);
        }
        run.due("produce(0, 0, 0, 3, 1)", 0)
                .due("produce(0, 0, 3, 0, 1)", 1)
                .due("produce(0, 0, 3, 3, 1)", 2)
                .due("produce(0, 0, 0, 0, 1)", 3);
    }

    private static void produceDebt() {
        Run run = oneDraft("4: DEBT, a is not b");
        for (int n : new int[] {LEAST, -1, 4, MOST}) {
            run.refused("produce(0, 1, " + n + ", 0, 1)", BAD).refused("produce(0, 1, 0, " + n + ", 1)", BAD);
        }
        for (int node = -1; node <= 4; node++) {
            run.refused("produce(0, 1, " + node + ", " + node + ", 1)", BAD);
        }
        run.due("produce(0, 1, 0, 3, 1)", 0).due("produce(0, 1, 3, 0, 1)", 1).due("produce(0, 1, 2, 3, 1)", 2);
    }

    private static void produceLock() {
        Run run = oneDraft("4: LOCK, a and b are 0");
        for (int n : new int[] {LEAST, -1, 1, 3, MOST}) {
            run.refused("produce(0, 2, " + n + ", 0, 1)", BAD)
                    .refused("produce(0, 2, 0, " + n + ", 1)", BAD)
                    .refused("produce(0, 2, " + n + ", " + n + ", 1)", BAD);
        }
        run.due("produce(0, 2, 0, 0, 1)", 0);
    }

    private static void produceAmount() {
        String[] kinds = {"0, 1, 1", "1, 1, 2", "2, 0, 0"};
        for (String kind : kinds) {
            Run run = oneDraft("4: BAD when amount is not 1 .. 1000");
            for (int amount : new int[] {LEAST, -1, 0, 1001, MOST}) {
                run.refused("produce(0, " + kind + ", " + amount + ")", BAD);
            }
            run.due("produce(0, " + kind + ", 1)", 0).due("produce(0, " + kind + ", 1000)", 1);
        }
    }

    private static void produceRoom() {
        oneDraft("4: ROOM for 4 outputs")
                .due("produce(0, 2, 0, 0, 1)", 0)
                .due("produce(0, 0, 0, 0, 2)", 1)
                .due("produce(0, 1, 0, 1, 3)", 2)
                .due("produce(0, 0, 1, 0, 4)", 3)
                .refused("produce(0, 0, 0, 0, 5)", ROOM)
                .refused("produce(0, 1, 0, 1, 5)", ROOM)
                .refused("produce(0, 2, 0, 0, 5)", ROOM);
    }

    private static void produceFirstRefusal() {
        oneDraft("4: the refusal named first")
                .does("produce(0, 2, 0, 0, 1)", "produce(0, 2, 0, 0, 1)", "produce(0, 2, 0, 0, 1)",
                        "produce(0, 2, 0, 0, 1)")
                .refused("produce(0, 3, 0, 0, 1)", BAD)
                .refused("produce(0, 1, 0, 0, 1)", BAD)
                .refused("produce(0, 0, 0, 0, 1001)", BAD)
                .does("drop(0)")
                .refused("produce(0, 0, 0, 0, 0)", BAD)
                .refused("produce(0, 0, 0, 0, 1)", NOT_DRAFT);
    }

    // ---- promise 5

    private static Run threeOutputs(String sentence) {
        return oneDraft(sentence).does("produce(0, 0, 0, 0, 1)", "produce(0, 0, 0, 0, 1)", "produce(0, 0, 0, 0, 1)");
    }

    /** The leaf of an output of CASH 0, 0, 1 that is bound to place p, or to none if p is -1. */
    private static int boundLeaf(int p) {
        return 1 + 3 * 16 * (1 + 1024 * (p + 1));
    }

    private static void bindPlaces() {
        Run run = threeOutputs("5: BAD when there is no transaction t");
        for (int t : new int[] {LEAST, -1, 1, 20, MOST}) {
            run.refused("bind(" + t + ", 0, 1)", BAD).refused("bind(" + t + ", 0, -1)", BAD);
        }
        run = threeOutputs("5: BAD when there is no output o of it");
        for (int o : new int[] {LEAST, -2, -1, 3, 4, MOST}) {
            run.refused("bind(0, " + o + ", 0)", BAD).refused("bind(0, " + o + ", -1)", BAD);
        }
        run.due("bind(0, 2, 0)", 0).due("tree(0, 0, 10)", boundLeaf(0));
        run = threeOutputs("5: BAD when p is not -1 and no output of it").does("bind(0, 0, 1)");
        for (int p : new int[] {LEAST, -2, 3, 4, MOST}) {
            run.refused("bind(0, 0, " + p + ")", BAD);
        }
        run.due("bind(0, 0, 2)", 0).due("tree(0, 0, 8)", boundLeaf(2));
        run = threeOutputs("5: BAD when p = o").does("bind(0, 0, 1)");
        for (int o = -2; o <= 4; o++) {
            run.refused("bind(0, " + o + ", " + o + ")", BAD);
        }
        threeOutputs("5: the fourth output")
                .refused("bind(0, 0, 3)", BAD)
                .does("produce(0, 0, 0, 0, 1)")
                .due("bind(0, 0, 3)", 0)
                .due("bind(0, 3, 0)", 0)
                .refused("bind(0, 0, 4)", BAD)
                .due("tree(0, 0, 8)", boundLeaf(3))
                .due("tree(0, 0, 11)", boundLeaf(0));
    }

    private static void bindToNothingElse() {
        threeOutputs("5: bound to p and to nothing else, or, p being -1, not bound")
                .due("bind(0, 0, -1)", 0)
                .due("tree(0, 0, 8)", boundLeaf(-1))
                .due("bind(0, 0, 1)", 0)
                .due("bind(0, 1, 0)", 0)
                .due("bind(0, 2, 1)", 0)
                .due("bind(0, 0, 2)", 0)
                .due("tree(0, 0, 8)", boundLeaf(2))
                .due("tree(0, 0, 9)", boundLeaf(0))
                .due("tree(0, 0, 10)", boundLeaf(1))
                .due("bind(0, 0, -1)", 0)
                .due("tree(0, 0, 8)", boundLeaf(-1))
                .due("tree(0, 0, 9)", boundLeaf(0));
    }

    private static void bindOneOutput() {
        oneDraft("5: without another output")
                .refused("bind(0, 0, -1)", BAD)
                .does("produce(0, 0, 0, 0, 1)")
                .refused("bind(0, 0, 0)", BAD)
                .refused("bind(0, 0, 1)", BAD)
                .due("bind(0, 0, -1)", 0)
                .due("tree(0, 0, 8)", boundLeaf(-1));
    }

    private static void bindFirstRefusal() {
        threeOutputs("5: BAD is named before NOT_DRAFT")
                .does("drop(0)")
                .refused("bind(0, 3, 0)", BAD)
                .refused("bind(0, 0, 3)", BAD)
                .refused("bind(0, 1, 1)", BAD)
                .refused("bind(0, 0, 1)", NOT_DRAFT)
                .refused("bind(0, 0, -1)", NOT_DRAFT);
    }

    // ---- promise 6

    private static void payNumbers() {
        Run run = fourCoins("6: BAD when there is no transaction t, issuer or to is not 0 .. 3, amount not 1 .. 1000");
        for (int t : new int[] {LEAST, -1, 2, 20, MOST}) {
            run.refused("pay(" + t + ", 0, 0, 1)", BAD);
        }
        for (int n : new int[] {LEAST, -1, 4, MOST}) {
            run.refused("pay(1, " + n + ", 0, 1)", BAD).refused("pay(1, 0, " + n + ", 1)", BAD);
        }
        for (int amount : new int[] {LEAST, -1, 0, 1001, MOST}) {
            run.refused("pay(1, 0, 0, " + amount + ")", BAD);
        }
        run.fork().due("pay(1, 0, 0, 1)", 1);
        run.fork().due("pay(1, 0, 3, 1)", 1);
        run("6: issuer 3, amount 1000")
                .does("begin(3, 4, 0, 9)", "produce(0, 0, 3, 3, 1000)")
                .finish(0)
                .does("begin(3, 4, 0, 9)")
                .refused("pay(1, 3, 0, 1001)", BAD)
                .due("pay(1, 3, 0, 1000)", 1)
                .due("tree(1, 0, 9)", 0);
    }

    private static void payShort() {
        oneDraft("6: SHORT, no coins at all").refused("pay(0, 0, 1, 1)", SHORT);
        fourCoins("6: SHORT when all coins together are less than amount")
                .refused("pay(1, 0, 1, 101)", SHORT)
                .refused("pay(1, 0, 1, 1000)", SHORT)
                .refused("pay(1, 1, 1, 1)", SHORT)
                .due("pay(1, 0, 1, 100)", 4)
                .refused("pay(1, 0, 1, 1)", SHORT);
    }

    /** As many coins as a payment can find: 19 transactions of four coins of 1 each. */
    private static void payManyCoins() {
        Run run = run("6: all coins together, 76 of them");
        for (int t = 0; t < 19; t++) {
            run.does("begin(0, 4, 0, 9)");
            for (int o = 0; o < 4; o++) {
                run.does("produce(" + t + ", 0, 0, 0, 1)");
            }
            run.finish(t);
        }
        run.due("begin(0, 4, 0, 9)", 19)
                .due("pay(19, 0, 1, 77)", SHORT)
                .due("pay(19, 0, 1, 76)", ROOM)
                .due("pay(19, 0, 1, 5)", ROOM)
                .due("tree(19, 0, 3)", 0)
                .due("tree(19, 0, 8)", 0)
                .due("pay(19, 0, 1, 4)", 4)
                .due("tree(19, 0, 6)", 4);
    }

    private static void payUntilAtLeast() {
        int[][] amountAndCoins = {{1, 1}, {9, 1}, {10, 1}, {11, 2}, {30, 2}, {31, 3}, {60, 3}, {61, 4}, {100, 4}};
        for (int[] c : amountAndCoins) {
            Run run = fourCoins("6: coins are taken until their total is at least amount");
            run.due("pay(1, 0, 1, " + c[0] + ")", c[1]);
            for (int i = 0; i < 4; i++) {
                run.due("tree(1, 0, " + (3 + i) + ")", i < c[1] ? 1 + i : 0);
            }
        }
    }

    private static int cashLeaf(int issuer, int owner, int amount) {
        return 1 + 3 * (issuer + 4 * (owner + 4 * amount));
    }

    private static void payRest() {
        int[][] amountAndRest = {{1, 9}, {9, 1}, {10, 0}, {11, 19}, {29, 1}, {30, 0}, {99, 1}, {100, 0}};
        for (int[] c : amountAndRest) {
            fourCoins("6: when the total was greater, another one of the rest")
                    .does("pay(1, 0, 2, " + c[0] + ")")
                    .due("tree(1, 0, 8)", cashLeaf(0, 2, c[0]))
                    .due("tree(1, 0, 9)", c[1] == 0 ? 0 : cashLeaf(0, 0, c[1]))
                    .due("tree(1, 0, 10)", 0);
        }
        run("6: the greatest rest")
                .does("begin(1, 4, 0, 9)", "produce(0, 0, 1, 1, 1000)")
                .finish(0)
                .does("begin(1, 4, 0, 9)")
                .due("pay(1, 1, 1, 1)", 1)
                .due("tree(1, 0, 8)", cashLeaf(1, 1, 1))
                .due("tree(1, 0, 9)", cashLeaf(1, 1, 999));
    }

    /** As fourCoins, and transaction 2 gives node 0 a fifth coin of 50. */
    private static Run fiveCoins(String sentence) {
        return fourCoins(sentence).does("begin(0, 4, 0, 9)", "produce(2, 0, 0, 0, 50)").finish(2);
    }

    private static void payRoomForInputs() {
        Run run = fiveCoins("6: ROOM when there would be more than 4 inputs");
        run.refused("pay(1, 0, 1, 101)", ROOM).refused("pay(1, 0, 1, 150)", ROOM);
        run.fork().due("pay(1, 0, 1, 100)", 4).refused("pay(1, 0, 1, 50)", ROOM);
        run.does("consume(1, 2, 0)")
                .refused("pay(1, 0, 1, 61)", ROOM)
                .refused("pay(1, 0, 1, 100)", ROOM)
                .due("pay(1, 0, 1, 60)", 3)
                .refused("pay(1, 0, 1, 40)", ROOM)
                .due("tree(1, 0, 6)", 3);
    }

    private static void payRoomForOutputs() {
        Run run = fourCoins("6: ROOM when there would be more than 4 outputs")
                .does("produce(1, 2, 0, 0, 1)", "produce(1, 2, 0, 0, 1)");
        run.fork().due("pay(1, 0, 1, 9)", 1).due("tree(1, 0, 11)", cashLeaf(0, 0, 1));
        run.does("produce(1, 2, 0, 0, 1)").refused("pay(1, 0, 1, 9)", ROOM).refused("pay(1, 0, 1, 11)", ROOM);
        run.fork().due("pay(1, 0, 1, 10)", 1).due("tree(1, 0, 11)", cashLeaf(0, 1, 10));
        run.does("produce(1, 2, 0, 0, 1)").refused("pay(1, 0, 1, 10)", ROOM).refused("pay(1, 0, 1, 9)", ROOM);
    }

    private static void payFirstRefusal() {
        fiveCoins("6: the refusal named first")
                .does("produce(1, 2, 0, 0, 1)", "produce(1, 2, 0, 0, 1)", "produce(1, 2, 0, 0, 1)",
                        "produce(1, 2, 0, 0, 1)", "consume(1, 0, 0)", "consume(1, 0, 1)", "consume(1, 0, 2)",
                        "consume(1, 0, 3)")
                .refused("pay(1, 0, 1, 50)", ROOM)
                .refused("pay(1, 0, 1, 51)", SHORT)
                .refused("pay(1, 0, 1, 1001)", BAD)
                .refused("pay(1, 4, 1, 51)", BAD)
                .does("drop(1)")
                .refused("pay(1, 0, 1, 50)", NOT_DRAFT)
                .refused("pay(1, 0, 1, 1000)", NOT_DRAFT)
                .refused("pay(1, 0, 4, 51)", BAD);
    }

    private static void payCoinsAreCash() {
        run("6: the coins are CASH states")
                .does("begin(0, 4, 0, 9)", "produce(0, 1, 0, 1, 10)", "produce(0, 2, 0, 0, 10)",
                        "produce(0, 1, 1, 0, 10)")
                .finish(0)
                .due("vault(0, -1)", 2)
                .does("begin(0, 4, 0, 9)")
                .refused("pay(1, 0, 1, 1)", SHORT)
                .refused("pay(1, 1, 1, 1)", SHORT);
    }

    private static void payCoinsAreOfTheIssuer() {
        run("6: issued by issuer")
                .does("begin(0, 4, 0, 9)", "produce(0, 0, 1, 0, 10)", "produce(0, 0, 0, 0, 5)")
                .finish(0)
                .does("begin(0, 4, 0, 9)")
                .refused("pay(1, 0, 1, 6)", SHORT)
                .refused("pay(1, 2, 1, 1)", SHORT)
                .due("pay(1, 1, 3, 10)", 1)
                .due("tree(1, 0, 8)", cashLeaf(1, 3, 10))
                .due("pay(1, 0, 1, 5)", 1)
                .due("tree(1, 0, 4)", 2);
    }

    private static void payCoinsAreNotBound() {
        run("6: not bound")
                .does("begin(0, 4, 0, 9)", "produce(0, 0, 0, 0, 10)", "produce(0, 0, 0, 0, 20)",
                        "produce(0, 0, 0, 0, 30)", "bind(0, 0, 1)", "bind(0, 2, 1)", "bind(0, 2, -1)")
                .finish(0)
                .does("begin(0, 4, 0, 9)")
                .refused("pay(1, 0, 1, 51)", SHORT)
                .due("pay(1, 0, 1, 50)", 2)
                .due("tree(1, 0, 3)", 2)
                .due("tree(1, 0, 4)", 3);
    }

    private static void payCoinsAreOfTheNotary() {
        run("6: of transactions with t's notary")
                .does("begin(0, 4, 0, 9)", "produce(0, 0, 0, 0, 10)")
                .finish(0)
                .does("begin(0, 5, 0, 9)", "produce(1, 0, 0, 0, 20)")
                .finish(1)
                .does("begin(0, 4, 0, 9)", "begin(0, 5, 0, 9)")
                .refused("pay(2, 0, 1, 11)", SHORT)
                .refused("pay(3, 0, 1, 21)", SHORT)
                .due("pay(2, 0, 1, 10)", 1)
                .due("tree(2, 0, 3)", 1)
                .due("pay(3, 0, 1, 20)", 1)
                .due("tree(3, 0, 3)", 5);
    }

    private static void payCoinsAreInTheVault() {
        run("6: in the initiator's vault, once it has recorded the transaction")
                .does("begin(0, 4, 0, 9)", "produce(0, 0, 0, 1, 10)", "produce(0, 0, 0, 0, 20)", "propose(0, false)",
                        "begin(0, 4, 0, 9)", "begin(1, 4, 0, 9)", "deliver(0, false)")
                .refused("pay(1, 0, 2, 1)", SHORT)
                .does("deliver(0, false)")
                .refused("pay(1, 0, 2, 21)", SHORT)
                .refused("pay(2, 0, 2, 1)", SHORT)
                .does("deliver(0, false)")
                .refused("pay(2, 0, 2, 11)", SHORT)
                .due("pay(2, 0, 2, 10)", 1)
                .due("pay(1, 0, 2, 20)", 1);
        run("6: a transaction that is only known gives no coins")
                .does("begin(0, 4, 0, 9)", "produce(0, 0, 0, 1, 10)", "produce(0, 0, 0, 0, 20)", "propose(0, false)",
                        "deliver(0, false)", "deliver(0, false)", "begin(0, 4, 0, 9)", "consume(1, 0, 1)",
                        "produce(1, 0, 0, 1, 20)", "propose(1, false)", "deliver(1, false)", "deliver(1, false)",
                        "deliver(1, false)", "begin(1, 4, 0, 9)")
                .due("standing(1, 0)", 1)
                .due("standing(1, 1)", 2)
                .refused("pay(2, 0, 2, 21)", SHORT)
                .does("deliver(0, false)")
                .due("pay(2, 0, 2, 30)", 2);
    }

    private static void payCoinsInAscendingOrder() {
        run("6: in ascending order of their numbers, whichever came first")
                .does("begin(0, 4, 0, 9)", "begin(0, 4, 0, 9)", "produce(1, 0, 0, 0, 10)")
                .finish(1)
                .does("produce(0, 0, 0, 0, 20)", "produce(0, 0, 0, 0, 30)")
                .finish(0)
                .does("begin(0, 4, 0, 9)")
                .due("pay(2, 0, 1, 51)", 3)
                .due("tree(2, 0, 3)", 1)
                .due("tree(2, 0, 4)", 2)
                .due("tree(2, 0, 5)", 5);
    }

    private static void payCoinsAreNotHeld() {
        for (int stage = 0; stage < Stages.COUNT; stage++) {
            int next = Stages.next(stage);
            boolean free = stage >= 4;
            Run run = Stages.at(check, "6: not held by the initiator, stage " + stage, stage)
                    .does("begin(0, " + Stages.notary(stage) + ", 0, 99)")
                    .due("pay(" + next + ", 0, 1, 10)", 1);
            // A FINAL transaction holds nothing, but its input has left the vault.
            run.due("tree(" + next + ", 0, 3)", free ? 1 : 2);
        }
    }

    private static void payCoinsHeldByAnother() {
        run("6: what another holds is not held by the initiator")
                .does("begin(0, 4, 0, 9)", "produce(0, 0, 0, 1, 10)")
                .finish(0)
                .does("begin(0, 4, 0, 9)", "consume(1, 0, 0)", "begin(1, 4, 0, 9)", "begin(1, 4, 0, 9)")
                .due("pay(2, 0, 3, 10)", 1)
                .refused("pay(3, 0, 3, 10)", SHORT)
                .does("drop(2)")
                .due("pay(3, 0, 3, 10)", 1);
        run("6: held by the first transaction, whose number is lower than the coin's")
                .does("begin(0, 4, 0, 9)", "begin(0, 4, 0, 9)", "produce(1, 0, 0, 0, 10)")
                .finish(1)
                .does("consume(0, 1, 0)", "begin(0, 4, 0, 9)")
                .refused("pay(2, 0, 1, 10)", SHORT)
                .does("drop(0)")
                .due("pay(2, 0, 1, 10)", 1);
    }

    // ---- promise 7, and NOT_DRAFT of all that builds

    private static void dropOnlyDrafts() {
        Run run = oneDraft("7: false when there is no transaction t");
        for (int t : new int[] {LEAST, -1, 1, 20, MOST}) {
            run.refused("drop(" + t + ")", 0);
        }
        run.due("drop(0)", 1).due("stage(0)", 9).refused("drop(0)", 0);
        run("7: false on a new object").refused("drop(0)", 0);
    }

    private static void notDraftAtEveryStage() {
        String[] builds = {"consume(1, 0, 2)", "produce(1, 0, 0, 0, 1)", "bind(1, 0, -1)", "pay(1, 0, 1, 1)",
            "propose(1, false)", "propose(1, true)"};
        for (String call : builds) {
            Stages.at(check, "NOT_DRAFT: a DRAFT", 0).does(call);
        }
        Stages.at(check, "7: a DRAFT", 0).due("drop(1)", 1);
        for (int stage = 1; stage < Stages.COUNT; stage++) {
            Run run = Stages.at(check, "NOT_DRAFT: stage " + stage, stage);
            for (String call : builds) {
                run.refused(call, NOT_DRAFT);
            }
            run.refused("drop(1)", 0).due("stage(1)", stage);
        }
        for (int notary = 4; notary <= 5; notary++) {
            run("NOT_DRAFT: in haste, the verdict not given yet")
                    .does("begin(0, " + notary + ", 0, 9)", "produce(0, 0, 1, 2, 5)", "propose(0, true)")
                    .refused("propose(0, false)", NOT_DRAFT)
                    .refused("propose(0, true)", NOT_DRAFT)
                    .does("deliver(0, false)")
                    .refused("propose(0, false)", NOT_DRAFT)
                    .refused("drop(0)", 0);
        }
    }

    // ---- promise 8

    private static void proposeTransaction() {
        Run run = oneDraft("8: BAD when there is no transaction t").does("produce(0, 0, 0, 0, 1)");
        for (int t : new int[] {LEAST, -1, 1, 20, MOST}) {
            run.refused("propose(" + t + ", false)", BAD).refused("propose(" + t + ", true)", BAD);
        }
        run.due("propose(0, false)", 1);
        run("8: BAD on a new object").refused("propose(0, true)", BAD);
    }

    private static void proposeEmpty() {
        oneDraft("8: INVALID, at least one input or output")
                .refused("propose(0, false)", INVALID)
                .due("signatures(0, false)", 0)
                .due("stage(0)", 0)
                .does("produce(0, 2, 0, 0, 1)")
                .due("propose(0, false)", 1);
        fourCoins("8: one input suffices").refused("propose(1, false)", INVALID).does("consume(1, 0, 0)")
                .due("propose(1, false)", 1);
        oneDraft("8: INVALID only when it is not in haste").due("propose(0, true)", 1).due("stage(0)", 2);
    }

    /** Transaction 0 is final with three coins bound 0 to 1 and 1 to 2; transaction 1 with three that are not. */
    private static Run boundCoins(String sentence) {
        return threeOutputs(sentence)
                .does("bind(0, 0, 1)", "bind(0, 1, 2)")
                .finish(0)
                .does("begin(0, 4, 0, 9)", "produce(1, 0, 0, 0, 1)", "produce(1, 0, 0, 0, 1)",
                        "produce(1, 0, 0, 0, 1)")
                .finish(1)
                .does("begin(0, 4, 0, 9)");
    }

    private static void proposeBound() {
        boundCoins("8: INVALID, for every input that is bound the other is an input too")
                .does("consume(2, 0, 0)")
                .refused("propose(2, false)", INVALID)
                .does("consume(2, 1, 1)")
                .refused("propose(2, false)", INVALID)
                .does("consume(2, 0, 1)")
                .refused("propose(2, false)", INVALID)
                .does("consume(2, 0, 2)")
                .due("propose(2, false)", 1);
        boundCoins("8: an input to which others are bound may stand alone")
                .does("consume(2, 0, 2)")
                .due("propose(2, false)", 1);
        boundCoins("8: the other may come first")
                .does("consume(2, 0, 2)", "consume(2, 0, 1)")
                .due("propose(2, false)", 1);
        boundCoins("8: INVALID only when it is not in haste")
                .does("consume(2, 0, 0)")
                .refused("propose(2, false)", INVALID)
                .due("propose(2, true)", 1);
        threeOutputs("8: outputs that are bound need no inputs").does("bind(0, 0, 1)").due("propose(0, false)", 1);
    }

    private static void proposeLock() {
        int[][] lockAndFrom = {{1, 0}, {1, 1}, {7, 6}, {7, 7}, {7, 8}, {1000, 999}, {1000, 1000}, {1, 999999}};
        for (int[] c : lockAndFrom) {
            Run run = run("8: INVALID unless a LOCK input has an amount not greater than FROM")
                    .does("begin(0, 4, 0, 9)", "produce(0, 2, 0, 0, " + c[0] + ")", "produce(0, 0, 0, 0, 1000)")
                    .finish(0)
                    .does("begin(0, 4, " + c[1] + ", 1000000)", "consume(1, 0, 1)");
            run.fork().due("propose(1, false)", 1);
            run.does("consume(1, 0, 0)");
            if (c[0] > c[1]) {
                run.refused("propose(1, false)", INVALID).due("propose(1, true)", 1);
            } else {
                run.due("propose(1, false)", 1);
            }
        }
        oneDraft("8: a LOCK output may have any amount").does("produce(0, 2, 0, 0, 1000)").due("propose(0, false)", 1);
    }

    private static void proposeAlone() {
        for (int haste = 0; haste <= 1; haste++) {
            oneDraft("8: NEEDS(t) is the initiator alone")
                    .does("produce(0, 0, 0, 1, 5)")
                    .due("propose(0, " + (haste == 1) + ")", 1)
                    .due("stage(0)", 2)
                    .due("signatures(0, false)", 1)
                    .due("message(-1)", 1)
                    .due("message(0)", Halls.code(Halls.NOTARISE, 0, 4, 0, 0));
        }
        oneDraft("8: in haste, though another must sign")
                .does("produce(0, 0, 1, 0, 5)")
                .due("propose(0, true)", 1)
                .due("stage(0)", 2)
                .due("signatures(0, false)", 1)
                .due("signatures(0, true)", 3)
                .due("message(-1)", 1)
                .due("message(0)", Halls.code(Halls.NOTARISE, 0, 4, 0, 0));
    }

    private static void proposeSends() {
        for (int initiator = 0; initiator < 4; initiator++) {
            Run run = run("8: ASK to the other nodes in NEEDS(t), in ascending order")
                    .does("begin(" + initiator + ", 5, 0, 9)");
            for (int issuer = 3; issuer >= 0; issuer--) {
                run.does("produce(0, 0, " + issuer + ", 0, 5)");
            }
            run.due("propose(0, false)", 3).due("stage(0)", 1).due("signatures(0, false)", 1 << initiator);
            int place = 0;
            for (int node = 0; node < 4; node++) {
                if (node != initiator) {
                    run.due("message(" + place + ")", Halls.code(Halls.ASK, initiator, node, 0, 0));
                    place++;
                }
            }
            run.due("message(-1)", 3);
        }
        oneDraft("8: one other node")
                .does("produce(0, 0, 3, 0, 5)")
                .due("propose(0, false)", 1)
                .due("stage(0)", 1)
                .due("message(0)", Halls.code(Halls.ASK, 0, 3, 0, 0));
    }

    private static void proposeFirstRefusal() {
        oneDraft("8: NOT_DRAFT is named before INVALID")
                .does("drop(0)")
                .refused("propose(0, false)", NOT_DRAFT)
                .refused("propose(0, true)", NOT_DRAFT);
    }
}
