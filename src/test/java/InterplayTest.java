/**
 * Longer runs in which several sentences of the part 'Terms' meet: nodes that hear of one transaction at different
 * times, verdicts that come before the last signature, and states that two nodes want.
 */
public final class InterplayTest {
    private static final int WAITS = 0;
    private static final int COPY = 1;
    private static final int TAKEN = 2;

    private static final Check check = new Check();

    public static void main(String[] args) {
        othersRecordBeforeTheInitiator();
        initiatorFetchesItsOwn();
        twoNodesWantOneState();
        loserSeesTheStateUntilItKnows();
        lateVerdictBeforeTheLastSignature();
        voidKeepsItsInputsUsedUp();
        boundStateFollowsItsLock();
        debtIsPaidWithoutItsCreditor();
        hallsAreApart();
        check.end();
    }

    private static Run run(String story) {
        return new Run(check, story);
    }

    /** Node 0 fails over the VERDICT of transaction 0, and node 1 gets FINALITY all the same. */
    private static Run recordedByTheOther(String story) {
        return run(story)
                .does("begin(0, 5, 0, 9)", "produce(0, 0, 0, 1, 5)")
                .due("propose(0, false)", 1)
                .due("deliver(0, false)", TAKEN)
                .due("deliver(0, true)", TAKEN)
                .due("deliver(1, false)", TAKEN);
    }

    private static void othersRecordBeforeTheInitiator() {
        recordedByTheOther("others record what is NOTARISING for its initiator")
                .due("stage(0)", 2)
                .due("standing(1, 0)", 2)
                .due("standing(0, 0)", 0)
                .due("vault(1, 0)", 0)
                .does("begin(1, 5, 0, 9)")
                .due("pay(1, 0, 2, 3)", 1)
                .due("propose(1, false)", 1)
                .due("deliver(1, false)", TAKEN)
                .due("deliver(1, false)", TAKEN)
                .due("stage(1)", 3)
                .due("spender(0, 0)", 1)
                .due("deliver(1, false)", TAKEN)
                .due("standing(2, 0)", 1)
                .due("balance(2, 0)", 3)
                .due("stage(0)", 2);
    }

    private static void initiatorFetchesItsOwn() {
        recordedByTheOther("an initiator fetches its own transaction, which it does not know yet")
                .does("begin(1, 5, 0, 9)", "begin(0, 5, 0, 9)")
                .due("consume(1, 0, 0)", 0)
                .due("consume(2, 0, 0)", -3)
                .does("produce(1, 0, 0, 2, 4)")
                .due("signatures(1, true)", 2 + 1)
                .due("propose(1, false)", 1)
                .due("deliver(1, false)", TAKEN)
                .due("standing(0, 0)", 1)
                .due("fetched(0)", 1)
                .due("consume(2, 0, 0)", 0)
                .due("stage(0)", 2)
                .due("deliver(0, false)", TAKEN)
                .due("stage(0)", 3)
                .due("standing(0, 0)", 2)
                .due("fetched(0)", 1)
                .due("message(-1)", 2)
                .due("message(1)", Halls.code(Halls.FINALITY, 0, 1, 0, 0))
                .due("deliver(1, false)", COPY);
    }

    /** Node 0 owes node 1; node 1 gives the debt up, node 0 splits it in two, and neither must ask the other. */
    private static void twoNodesWantOneState() {
        Run run = run("a notary lets no state be used up twice, whichever NOTARISE comes first")
                .does("begin(0, 4, 0, 9)", "produce(0, 1, 0, 1, 7)")
                .finish(0)
                .does("begin(1, 4, 0, 9)", "consume(1, 0, 0)", "begin(0, 4, 0, 9)", "consume(2, 0, 0)",
                        "produce(2, 1, 0, 1, 3)", "produce(2, 1, 0, 1, 4)")
                .due("propose(1, false)", 1)
                .due("propose(2, false)", 1);
        run.fork().deliverAll()
                .due("stage(1)", 3)
                .due("stage(2)", 7)
                .due("spender(0, 0)", 1)
                .due("vault(1, -1)", 0)
                .due("vault(0, 0)", 0);
        run.fork().due("deliver(1, false)", TAKEN)
                .deliverAll()
                .due("stage(1)", 7)
                .due("stage(2)", 3)
                .due("spender(0, 0)", 2)
                .due("vault(1, -1)", 2)
                .due("vault(1, 0)", 8);
    }

    private static void loserSeesTheStateUntilItKnows() {
        run("a node sees a debt until it knows the transaction that used it up, and its own then is a CONFLICT")
                .does("begin(0, 4, 0, 9)", "produce(0, 1, 0, 1, 7)")
                .finish(0)
                .does("begin(1, 4, 0, 9)", "consume(1, 0, 0)")
                .finish(1)
                .due("stage(1)", 3)
                .due("vault(1, -1)", 0)
                .due("vault(0, -1)", 1)
                .does("begin(0, 4, 0, 9)")
                .due("consume(2, 0, 0)", 0)
                .does("produce(2, 1, 0, 1, 7)")
                .due("signatures(2, true)", 1)
                .finish(2)
                .due("verdict(2)", 4)
                .due("stage(2)", 7)
                .due("vault(0, -1)", 1)
                .due("standing(1, 2)", 0);
    }

    private static void lateVerdictBeforeTheLastSignature() {
        run("a verdict given while t was SIGNING stands when t is NOTARISING")
                .does("begin(0, 4, 2, 9)", "produce(0, 0, 1, 0, 5)", "propose(0, false)", "deliver(0, false)")
                .due("deliver(0, true)", TAKEN)
                .due("deliver(1, false)", TAKEN)
                .due("verdict(0)", 2)
                .due("deliver(1, false)", WAITS)
                .does("tick(2)")
                .due("deliver(0, false)", TAKEN)
                .due("stage(0)", 2)
                .due("message(0)", Halls.code(Halls.VERDICT, 4, 0, 0, 2))
                .due("message(1)", Halls.code(Halls.NOTARISE, 0, 4, 0, 0))
                .due("deliver(0, false)", TAKEN)
                .due("stage(0)", 5)
                .due("deliver(0, false)", TAKEN)
                .due("verdict(0)", 2)
                .due("message(0)", Halls.code(Halls.VERDICT, 4, 0, 0, 2))
                .due("deliver(0, false)", COPY)
                .due("stage(0)", 5);
    }

    private static void voidKeepsItsInputsUsedUp() {
        run("a VOID transaction has used its inputs up, and nobody can go on from its outputs")
                .does("begin(0, 5, 0, 9)", "produce(0, 0, 0, 0, 5)")
                .finish(0)
                .does("begin(0, 5, 0, 9)", "consume(1, 0, 0)", "produce(1, 0, 0, 1, 4)", "produce(1, 0, 2, 1, 1)",
                        "propose(1, true)")
                .due("deliver(0, false)", TAKEN)
                .due("deliver(0, false)", TAKEN)
                .due("stage(1)", 8)
                .due("deliver(0, false)", 3)
                .due("deliver(0, false)", 3)
                .due("fetched(1)", 0)
                .due("spender(0, 0)", 1)
                .does("begin(1, 5, 0, 9)", "begin(0, 5, 0, 9)")
                .due("consume(2, 1, 0)", -3)
                .due("consume(3, 1, 0)", -3)
                .due("consume(2, 0, 0)", -3)
                .due("consume(3, 0, 0)", 0)
                .finish(3)
                .due("stage(3)", 7);
    }

    /** The cash can only be used up together with the LOCK, and the LOCK only from time 6 on. */
    private static void boundStateFollowsItsLock() {
        Run run = run("CASH that is bound to a LOCK")
                .does("begin(0, 4, 0, 99)", "produce(0, 0, 0, 1, 5)", "produce(0, 2, 0, 0, 6)", "bind(0, 0, 1)")
                .finish(0)
                .due("balance(1, 0)", 5)
                .does("begin(1, 4, 5, 99)", "begin(1, 4, 6, 99)")
                .due("pay(1, 0, 2, 5)", -7)
                .does("consume(1, 0, 0)", "produce(1, 0, 0, 2, 5)", "consume(2, 0, 0)", "produce(2, 0, 0, 2, 5)");
        run.refused("propose(1, false)", -8)
                .refused("propose(2, false)", -8)
                .does("consume(1, 0, 1)", "consume(2, 0, 1)")
                .refused("propose(1, false)", -8)
                .does("tick(6)")
                .finish(2)
                .due("stage(2)", 3)
                .due("balance(2, 0)", 5)
                .due("spender(0, 1)", 2);
    }

    private static void debtIsPaidWithoutItsCreditor() {
        run("a debtor that pays in full needs no signature of its creditor")
                .does("begin(0, 4, 0, 9)", "produce(0, 1, 0, 1, 7)")
                .finish(0)
                .does("begin(2, 4, 0, 9)", "produce(1, 0, 2, 0, 10)")
                .finish(1)
                .does("begin(0, 4, 0, 9)", "consume(2, 0, 0)")
                .due("signatures(2, true)", 1 + 2)
                .due("pay(2, 2, 1, 7)", 1)
                .due("signatures(2, true)", 1)
                .does("consent(1, 0, false)")
                .finish(2)
                .due("stage(2)", 3)
                .due("balance(0, 2)", 3)
                .due("balance(1, 2)", 7)
                .due("vault(0, -1)", 1)
                .due("vault(1, -1)", 1)
                .due("fetched(1)", 1)
                .due("standing(1, 1)", 1);
    }

    /** Two halls, used by turns, answer as each would alone. */
    private static void hallsAreApart() {
        Caller first = new Caller();
        Caller second = new Caller();
        String[] calls = {"begin(0, 4, 0, 9)", "produce(0, 0, 0, 1, 5)", "propose(0, false)", "deliver(0, false)",
            "deliver(0, false)", "deliver(0, false)", "tick(3)", "balance(1, 0)"};
        int[] answers = {0, 0, 1, 2, 2, 2, 3, 5};
        for (int i = 0; i < calls.length; i++) {
            check.due("the first hall: " + calls[i], first.call(calls[i]), answers[i]);
            check.due("the second hall has nothing yet", second.call("stage(0)"), -1);
            check.due("the second hall has no messages", second.call("message(-1)"), 0);
        }
        for (int i = 0; i < calls.length; i++) {
            check.due("the second hall: " + calls[i], second.call(calls[i]), answers[i]);
            check.due("the first hall stays", first.call("balance(1, 0)"), 5);
            check.due("the first hall's clock", first.call("tick(0)"), 3);
        }
    }
}
