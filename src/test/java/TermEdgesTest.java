/**
 * The boundaries in the part 'Terms' that no single method names: the clock, the greatest numbers, what a state
 * concerns, NEEDS, VALID, SOUND, the vault and fetching. Each run bears the words that name the boundary.
 */
public final class TermEdgesTest {
    private static final Check check = new Check();

    public static void main(String[] args) {
        numbersAndPlaces();
        needsOfNothing();
        needsTheOwners();
        needsTheIssuer();
        needsTheIssuerAtGreatTotals();
        needsTheDebtor();
        needsPairsApart();
        letDownByOneDebtor();
        letDownByPart();
        letDownBySeveral();
        letDownOnlyByLess();
        letDownByCashOfOthers();
        needsOfLocks();
        validOneInputOrOutput();
        validBothBound();
        validLockAmongOthers();
        soundInHaste();
        soundStaysAsProposed();
        concerns();
        vaultNeedsRecording();
        vaultLosesKnownInputs();
        vaultKeepsWhatIsOnlyUsedUp();
        vaultInAscendingOrder();
        fetchNothing();
        fetchAtAnyDepth();
        fetchCountsOnce();
        fetchNotItself();
        fetchForgetsNothing();
        check.end();
    }

    private static Run run(String sentence) {
        return new Run(check, sentence);
    }

    private static void numbersAndPlaces() {
        run("the CLOCK is 0 at first").due("tick(0)", 0);
        Run run = run("transactions 0, 1, .. in the order of begin, outputs from 0; a NUMBER is 4 * t + o");
        for (int t = 0; t < 3; t++) {
            run.due("begin(0, 4, 0, 9)", t);
            for (int o = 0; o < 4; o++) {
                run.due("produce(" + t + ", 0, 0, 0, 1)", o);
            }
            run.finish(t);
        }
        for (int number = 0; number < 12; number++) {
            run.due("vault(0, " + number + ")", number);
        }
        run.due("vault(0, 12)", -1);
    }

    // ---- NEEDS

    private static void needsOfNothing() {
        for (int node = 0; node < 4; node++) {
            run("NEEDS: the initiator").does("begin(" + node + ", 4, 0, 9)").due("signatures(0, true)", 1 << node);
        }
    }

    /** Transaction 0, by node 0, gives 10 of its cash to each of the four nodes. */
    private static Run shared(String sentence) {
        return run(sentence)
                .does("begin(0, 4, 0, 9)", "produce(0, 0, 0, 0, 10)", "produce(0, 0, 0, 1, 10)",
                        "produce(0, 0, 0, 2, 10)", "produce(0, 0, 0, 3, 10)")
                .finish(0);
    }

    private static void needsTheOwners() {
        shared("NEEDS: the owner of every CASH input")
                .does("begin(0, 4, 0, 9)")
                .due("signatures(1, true)", 1)
                .does("consume(1, 0, 0)")
                .due("signatures(1, true)", 1)
                .does("consume(1, 0, 1)")
                .due("signatures(1, true)", 3)
                .does("consume(1, 0, 3)")
                .due("signatures(1, true)", 11)
                .does("consume(1, 0, 2)")
                .due("signatures(1, true)", 15);
        shared("NEEDS: the owner, though it gets the same again")
                .does("begin(2, 4, 0, 9)", "consume(1, 0, 3)", "produce(1, 0, 0, 3, 10)")
                .due("signatures(1, true)", 4 + 8);
        shared("NEEDS: not the owner of an output")
                .does("begin(1, 4, 0, 9)", "consume(1, 0, 1)", "produce(1, 0, 0, 3, 10)")
                .due("signatures(1, true)", 2);
    }

    private static void needsTheIssuer() {
        shared("NEEDS: every node whose issued CASH has another total in the inputs than in the outputs")
                .does("begin(1, 4, 0, 9)", "consume(1, 0, 1)")
                .due("signatures(1, true)", 2 + 1)
                .does("produce(1, 0, 0, 1, 9)")
                .due("signatures(1, true)", 2 + 1)
                .does("produce(1, 0, 0, 1, 1)")
                .due("signatures(1, true)", 2)
                .does("produce(1, 0, 0, 1, 1)")
                .due("signatures(1, true)", 2 + 1);
        shared("NEEDS: another issuer's CASH of the same total")
                .does("begin(1, 4, 0, 9)", "consume(1, 0, 1)", "produce(1, 0, 2, 1, 10)")
                .due("signatures(1, true)", 2 + 1 + 4);
        shared("NEEDS: not DEBT of the issuer in place of its CASH")
                .does("begin(1, 4, 0, 9)", "consume(1, 0, 1)", "produce(1, 1, 1, 0, 10)")
                .due("signatures(1, true)", 2 + 1);
        for (int issuer = 0; issuer < 4; issuer++) {
            run("NEEDS: the issuer of what is new")
                    .does("begin(2, 4, 0, 9)", "produce(0, 0, " + issuer + ", 2, 1)")
                    .due("signatures(0, true)", 4 | 1 << issuer);
        }
    }

    private static void needsTheIssuerAtGreatTotals() {
        Run run = run("NEEDS: totals of 4000").does("begin(0, 4, 0, 9)");
        for (int o = 0; o < 4; o++) {
            run.does("produce(0, 0, 0, 1, 1000)");
        }
        run.finish(0).does("begin(1, 4, 0, 9)");
        for (int o = 0; o < 4; o++) {
            run.does("consume(1, 0, " + o + ")");
        }
        run.does("produce(1, 0, 0, 1, 1000)", "produce(1, 0, 0, 2, 1000)", "produce(1, 0, 0, 3, 1000)");
        run.fork().does("produce(1, 0, 0, 1, 999)").due("signatures(1, true)", 3);
        run.fork().does("produce(1, 0, 0, 1, 1000)").due("signatures(1, true)", 2);
    }

    /** Transaction 0, by node 2: node 0 owes node 3 a hundred, node 1 owes node 3 fifty. */
    private static Run owed(String sentence) {
        return run(sentence)
                .does("begin(2, 4, 0, 9)", "produce(0, 1, 0, 3, 100)", "produce(0, 1, 1, 3, 50)")
                .finish(0)
                .due("stage(0)", 3)
                .does("begin(2, 4, 0, 9)");
    }

    private static void needsTheDebtor() {
        owed("NEEDS: node a for every pair whose DEBT has a greater total in the outputs")
                .does("produce(1, 1, 0, 3, 1)")
                .due("signatures(1, true)", 4 + 1)
                .does("consume(1, 0, 0)")
                .due("signatures(1, true)", 4 + 8)
                .does("produce(1, 1, 0, 3, 99)")
                .due("signatures(1, true)", 4)
                .does("produce(1, 1, 0, 3, 1)")
                .due("signatures(1, true)", 4 + 1);
    }

    private static void needsPairsApart() {
        owed("NEEDS: the pair a, b, not b, a")
                .does("consume(1, 0, 0)", "produce(1, 1, 3, 0, 100)")
                .due("signatures(1, true)", 4 + 8);
        owed("NEEDS: the pair a, b, not a with another")
                .does("consume(1, 0, 0)", "produce(1, 1, 0, 1, 100)")
                .due("signatures(1, true)", 4 + 8 + 1);
        owed("NEEDS: the pair a, b, not another with b")
                .does("consume(1, 0, 0)", "produce(1, 1, 1, 3, 100)")
                .due("signatures(1, true)", 4 + 8 + 2);
    }

    private static void letDownByOneDebtor() {
        int[][] paidAndNeeds = {{1, 12}, {99, 12}, {100, 4}, {101, 4}};
        owed("NEEDS: let down, nothing paid").does("consume(1, 0, 0)").due("signatures(1, true)", 12);
        for (int[] c : paidAndNeeds) {
            owed("NEEDS: let down if that sum is more than the CASH outputs owned by b")
                    .does("consume(1, 0, 0)", "produce(1, 0, 2, 3, " + c[0] + ")")
                    .due("signatures(1, true)", c[1]);
        }
    }

    private static void letDownByPart() {
        owed("NEEDS: the difference alone must be paid")
                .does("consume(1, 0, 0)", "produce(1, 1, 0, 3, 60)")
                .due("signatures(1, true)", 12)
                .does("produce(1, 0, 2, 3, 39)")
                .due("signatures(1, true)", 12)
                .does("produce(1, 0, 2, 3, 1)")
                .due("signatures(1, true)", 4);
        owed("NEEDS: let down by one")
                .does("consume(1, 0, 0)", "produce(1, 1, 0, 3, 99)")
                .due("signatures(1, true)", 12)
                .does("produce(1, 1, 0, 3, 1)")
                .due("signatures(1, true)", 4);
    }

    private static void letDownBySeveral() {
        owed("NEEDS: for every a the difference is added up")
                .does("consume(1, 0, 0)", "consume(1, 0, 1)", "produce(1, 0, 2, 3, 100)")
                .due("signatures(1, true)", 12)
                .does("produce(1, 0, 2, 3, 49)")
                .due("signatures(1, true)", 12)
                .does("produce(1, 0, 2, 3, 1)")
                .due("signatures(1, true)", 4);
    }

    private static void letDownOnlyByLess() {
        owed("NEEDS: a greater DEBT of one does not make up for the smaller one of another")
                .does("consume(1, 0, 0)", "consume(1, 0, 1)", "produce(1, 1, 0, 3, 150)")
                .due("signatures(1, true)", 4 + 8 + 1)
                .does("produce(1, 0, 2, 3, 49)")
                .due("signatures(1, true)", 4 + 8 + 1)
                .does("produce(1, 0, 2, 3, 1)")
                .due("signatures(1, true)", 4 + 1);
        owed("NEEDS: nobody is let down by what is not more than 0").does("produce(1, 0, 2, 3, 5)")
                .due("signatures(1, true)", 4);
    }

    private static void letDownByCashOfOthers() {
        owed("NEEDS: CASH outputs owned by b, not by another")
                .does("consume(1, 0, 0)", "produce(1, 0, 2, 1, 1000)", "produce(1, 0, 2, 0, 1000)")
                .due("signatures(1, true)", 12);
        owed("NEEDS: CASH outputs of any issuer")
                .does("consume(1, 0, 0)", "produce(1, 0, 2, 3, 50)", "produce(1, 0, 1, 3, 49)")
                .due("signatures(1, true)", 4 + 2 + 8)
                .does("produce(1, 0, 0, 3, 1)")
                .due("signatures(1, true)", 4 + 2 + 1);
        owed("NEEDS: CASH that b has issued, owned by another, is not its own")
                .does("consume(1, 0, 0)", "produce(1, 0, 3, 2, 100)")
                .due("signatures(1, true)", 12);
    }

    private static void needsOfLocks() {
        run("NEEDS: nobody for a LOCK")
                .does("begin(3, 4, 0, 9)", "produce(0, 2, 0, 0, 1000)")
                .due("signatures(0, true)", 8)
                .finish(0)
                .does("begin(3, 4, 1000, 2000)", "consume(1, 0, 0)", "produce(1, 2, 0, 0, 1)")
                .due("signatures(1, true)", 8);
    }

    // ---- VALID and SOUND

    /** Whether transaction t, proposed in haste to the checking notary, is found faulty. */
    private static void judged(Run run, int t, boolean valid) {
        run.does("propose(" + t + ", true)").deliverAll().due("verdict(" + t + ")", valid ? 1 : 3);
    }

    private static void validOneInputOrOutput() {
        judged(run("VALID: it has at least one input or output").does("begin(0, 4, 0, 9)"), 0, false);
        judged(run("VALID: one output").does("begin(0, 4, 0, 9)", "produce(0, 2, 0, 0, 1)"), 0, true);
        judged(shared("VALID: one input").does("begin(0, 4, 0, 9)", "consume(1, 0, 0)"), 1, true);
    }

    private static void validBothBound() {
        Run run = run("VALID: the state to which it is bound is an input of t too")
                .does("begin(0, 4, 0, 9)", "produce(0, 0, 0, 0, 1)", "produce(0, 0, 0, 0, 1)",
                        "produce(0, 0, 0, 0, 1)", "produce(0, 0, 0, 0, 1)", "bind(0, 0, 3)", "bind(0, 3, 0)",
                        "bind(0, 1, 2)")
                .finish(0)
                .does("begin(0, 4, 0, 9)");
        judged(run.fork().does("consume(1, 0, 0)"), 1, false);
        judged(run.fork().does("consume(1, 0, 3)"), 1, false);
        judged(run.fork().does("consume(1, 0, 0)", "consume(1, 0, 3)"), 1, true);
        judged(run.fork().does("consume(1, 0, 3)", "consume(1, 0, 0)"), 1, true);
        judged(run.fork().does("consume(1, 0, 1)"), 1, false);
        judged(run.fork().does("consume(1, 0, 2)"), 1, true);
        judged(run.fork().does("consume(1, 0, 2)", "consume(1, 0, 3)"), 1, false);
        judged(run.fork().does("consume(1, 0, 1)", "consume(1, 0, 2)", "consume(1, 0, 0)", "consume(1, 0, 3)"),
                1, true);
    }

    private static void validLockAmongOthers() {
        Run run = run("VALID: every input that is a LOCK has an amount not greater than FROM")
                .does("begin(0, 4, 0, 9)", "produce(0, 2, 0, 0, 4)", "produce(0, 2, 0, 0, 5)",
                        "produce(0, 0, 0, 0, 6)", "produce(0, 2, 0, 0, 6)")
                .finish(0)
                .does("tick(5)", "begin(0, 4, 5, 9)");
        judged(run.fork().does("consume(1, 0, 0)", "consume(1, 0, 1)", "consume(1, 0, 2)"), 1, true);
        judged(run.fork().does("consume(1, 0, 0)", "consume(1, 0, 3)"), 1, false);
        judged(run.fork().does("consume(1, 0, 3)", "consume(1, 0, 0)"), 1, false);
        judged(run.fork().does("consume(1, 0, 1)", "produce(1, 2, 0, 0, 1000)"), 1, true);
    }

    private static void soundInHaste() {
        Run run = run("SOUND: not proposed in haste or NEEDS(t) is the initiator alone")
                .does("begin(0, 4, 0, 9)", "produce(0, 0, 0, 3, 5)");
        judged(run.fork(), 0, true);
        judged(run.fork().does("produce(0, 0, 1, 3, 5)"), 0, false);
        run.fork().does("produce(0, 0, 1, 3, 5)").finish(0).due("verdict(0)", 1).due("stage(0)", 3);
    }

    /** What is proposed can no longer be built on, so a plain notary's VOID stays VOID. */
    private static void soundStaysAsProposed() {
        run("SOUND: as it was proposed")
                .does("begin(0, 5, 0, 9)", "propose(0, true)")
                .refused("produce(0, 2, 0, 0, 1)", -2)
                .deliverAll()
                .due("verdict(0)", 1)
                .due("stage(0)", 8)
                .due("standing(0, 0)", 0);
    }

    // ---- what a state concerns, and the vault

    private static void concerns() {
        String[] outputs = {"0, 1, 2", "0, 2, 2", "1, 1, 2", "1, 2, 1", "2, 0, 0"};
        int[] concerned = {4, 4, 6, 6, 0};
        for (int i = 0; i < outputs.length; i++) {
            Run run = run("a state concerns: kind and nodes " + outputs[i])
                    .does("begin(3, 4, 0, 9)", "produce(0, " + outputs[i] + ", 5)", "produce(0, 1, 3, 0, 1)",
                            "produce(0, 1, 3, 1, 1)", "produce(0, 1, 3, 2, 1)")
                    .finish(0)
                    .due("stage(0)", 3);
            for (int node = 0; node < 4; node++) {
                boolean concernsNode = (concerned[i] >> node & 1) == 1;
                int others = node == 3 ? 3 : 1;
                run.due("standing(" + node + ", 0)", 2)
                        .due("vault(" + node + ", -1)", others + (concernsNode ? 1 : 0))
                        .due("vault(" + node + ", 0)", concernsNode ? 0 : node == 3 ? 1 : 1 + node);
            }
        }
    }

    private static void vaultNeedsRecording() {
        run("VAULT: outputs of a transaction that it has recorded, not one that it only knows")
                .does("begin(0, 4, 0, 9)", "produce(0, 1, 0, 1, 10)", "produce(0, 0, 0, 0, 5)", "propose(0, false)",
                        "deliver(0, false)")
                .due("vault(0, -1)", 0)
                .does("deliver(0, false)")
                .due("vault(0, -1)", 2)
                .due("vault(1, -1)", 0)
                .does("begin(0, 4, 0, 9)", "consume(1, 0, 1)", "produce(1, 0, 0, 1, 5)", "propose(1, false)",
                        "deliver(1, false)", "deliver(1, false)", "deliver(1, false)")
                .due("standing(1, 0)", 1)
                .due("vault(1, -1)", 1)
                .due("vault(1, 0)", 4)
                .does("deliver(0, false)")
                .due("standing(1, 0)", 2)
                .due("vault(1, -1)", 2)
                .due("vault(1, 0)", 0)
                .due("vault(1, 1)", 4);
    }

    private static void vaultLosesKnownInputs() {
        run("VAULT: not an input of a transaction that it knows, though it has not recorded it")
                .does("begin(0, 4, 0, 9)", "produce(0, 1, 0, 1, 10)")
                .finish(0)
                .does("begin(1, 4, 0, 9)", "consume(1, 0, 0)", "produce(1, 0, 1, 2, 1)")
                .finish(1)
                .due("standing(0, 1)", 0)
                .due("vault(0, -1)", 1)
                .due("vault(1, -1)", 0)
                .does("begin(2, 4, 0, 9)", "consume(2, 1, 0)", "produce(2, 0, 1, 3, 1)", "produce(2, 0, 0, 3, 1)",
                        "propose(2, false)")
                .due("deliver(0, false)", 2)
                .due("standing(0, 1)", 1)
                .due("vault(0, -1)", 0);
        run("VAULT: not an input of the first transaction")
                .does("begin(0, 4, 0, 9)", "begin(0, 4, 0, 9)", "produce(1, 0, 0, 0, 10)")
                .finish(1)
                .does("consume(0, 1, 0)")
                .due("vault(0, -1)", 1)
                .finish(0)
                .due("vault(0, -1)", 0);
    }

    private static void vaultKeepsWhatIsOnlyUsedUp() {
        run("VAULT: a state that is used up by a transaction that nobody knows stays")
                .does("begin(0, 5, 0, 9)", "produce(0, 0, 0, 0, 5)")
                .finish(0)
                .does("begin(0, 5, 0, 9)", "consume(1, 0, 0)", "produce(1, 0, 1, 0, 5)", "propose(1, true)")
                .deliverAll()
                .due("stage(1)", 8)
                .due("spender(0, 0)", 1)
                .due("vault(0, -1)", 1)
                .due("balance(0, 0)", 5)
                .does("begin(0, 5, 0, 9)")
                .due("pay(2, 0, 1, 5)", 1)
                .finish(2)
                .due("verdict(2)", 4)
                .due("stage(2)", 7)
                .due("spender(0, 0)", 1);
    }

    private static void vaultInAscendingOrder() {
        run("VAULT: in ascending order of their numbers, whichever was recorded first")
                .does("begin(0, 4, 0, 9)", "begin(0, 4, 0, 9)", "produce(0, 0, 0, 0, 1)", "produce(0, 0, 0, 1, 1)",
                        "produce(0, 0, 0, 0, 1)", "produce(1, 0, 0, 0, 1)")
                .finish(1)
                .due("vault(0, 0)", 4)
                .finish(0)
                .due("vault(0, 0)", 0)
                .due("vault(0, 1)", 2)
                .due("vault(0, 2)", 4)
                .due("vault(0, 3)", -1)
                .due("vault(1, 0)", 1);
    }

    // ---- fetching

    private static void fetchNothing() {
        run("FETCH: for a transaction without inputs")
                .does("begin(0, 4, 0, 9)", "produce(0, 0, 1, 0, 1)")
                .finish(0)
                .due("standing(1, 0)", 2)
                .due("fetched(1)", 0);
    }

    /** Each transaction spends the one before it; the last gives the coin to node 1. */
    private static void fetchAtAnyDepth() {
        Run run = run("FETCH: at any depth").does("begin(0, 4, 0, 9)", "produce(0, 0, 0, 0, 1)").finish(0);
        for (int t = 1; t < 20; t++) {
            run.does("begin(0, 4, 0, 9)", "consume(" + t + ", " + (t - 1) + ", 0)",
                    "produce(" + t + ", 0, 0, " + (t < 19 ? 0 : 1) + ", 1)").finish(t);
        }
        run.due("fetched(0)", 0).due("fetched(1)", 19).due("fetched(2)", 0);
        for (int t = 0; t < 19; t++) {
            run.due("standing(1, " + t + ")", 1);
        }
        run.due("standing(1, 19)", 2).due("vault(1, -1)", 1).due("vault(1, 0)", 76);
    }

    private static void fetchCountsOnce() {
        run("FETCH: those that were not known are counted, each once")
                .does("begin(0, 4, 0, 9)", "produce(0, 0, 0, 0, 1)", "produce(0, 0, 0, 0, 2)")
                .finish(0)
                .does("begin(0, 4, 0, 9)", "consume(1, 0, 0)", "produce(1, 0, 0, 0, 1)")
                .finish(1)
                .does("begin(0, 4, 0, 9)", "consume(2, 0, 1)", "produce(2, 0, 0, 0, 2)")
                .finish(2)
                .does("begin(0, 4, 0, 9)", "consume(3, 1, 0)", "consume(3, 2, 0)", "produce(3, 0, 0, 1, 3)",
                        "produce(3, 0, 2, 0, 1)", "produce(3, 0, 2, 1, 1)", "propose(3, false)")
                .due("deliver(0, false)", 2)
                .due("fetched(2)", 3)
                .deliverAll()
                .due("fetched(2)", 3)
                .due("fetched(1)", 3)
                .due("standing(2, 3)", 2)
                .does("begin(1, 4, 0, 9)", "consume(4, 3, 0)", "produce(4, 0, 0, 2, 3)")
                .finish(4)
                .due("standing(2, 4)", 2)
                .due("fetched(2)", 3)
                .does("begin(2, 4, 0, 9)", "consume(5, 4, 0)", "produce(5, 0, 0, 3, 3)")
                .finish(5)
                .due("fetched(3)", 5);
    }

    private static void fetchNotItself() {
        run("FETCH: what comes before t, not t itself")
                .does("begin(0, 4, 0, 9)", "produce(0, 0, 0, 0, 1)")
                .finish(0)
                .does("begin(0, 4, 0, 9)", "consume(1, 0, 0)", "produce(1, 0, 3, 0, 1)", "propose(1, false)",
                        "deliver(0, false)")
                .due("standing(3, 0)", 1)
                .due("standing(3, 1)", 0)
                .due("fetched(3)", 1);
    }

    private static void fetchForgetsNothing() {
        run("FETCH: what was known before stays known")
                .does("begin(0, 4, 0, 9)", "produce(0, 0, 0, 0, 1)", "produce(0, 0, 0, 0, 2)")
                .finish(0)
                .does("begin(0, 4, 0, 9)", "produce(1, 0, 0, 0, 3)")
                .finish(1)
                .does("begin(0, 4, 0, 9)", "consume(2, 0, 0)", "produce(2, 0, 0, 3, 1)")
                .finish(2)
                .due("standing(3, 0)", 1)
                .does("begin(0, 4, 0, 9)", "consume(3, 1, 0)", "produce(3, 0, 0, 3, 3)")
                .finish(3)
                .due("standing(3, 0)", 1)
                .due("standing(3, 1)", 1)
                .due("fetched(3)", 2)
                .does("begin(0, 4, 0, 9)", "consume(4, 0, 1)", "produce(4, 0, 0, 3, 2)")
                .finish(4)
                .due("fetched(3)", 2);
    }
}
