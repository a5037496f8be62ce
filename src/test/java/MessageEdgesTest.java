/**
 * The boundaries of promises 9 to 12 and of what the document says of messages, receivers and failing.
 * Each run bears the number of its promise, or T for the part 'Terms', and the words that name the boundary.
 */
public final class MessageEdgesTest {
    private static final int LEAST = Integer.MIN_VALUE;
    private static final int MOST = Integer.MAX_VALUE;
    private static final int WAITS = 0;
    private static final int COPY = 1;
    private static final int TAKEN = 2;
    private static final int REJECTED = 3;

    private static final Check check = new Check();

    public static void main(String[] args) {
        deliverPlace();
        messagePlace();
        messageNumbers();
        mostMessagesWait();
        likeAWaitingOne();
        alikeButForOneThing();
        sentAgainWhenGone();
        staysAtItsPlace();
        askDecidesOnce();
        askDecisionIsKeptWhenFailing();
        askFetchesForYes();
        askAfterTheEnd();
        replyOfEverySender();
        replyNo();
        replyAtEveryStage();
        replyFails();
        notariseWindow();
        notariseFarWindow();
        notariseOrder();
        notariseOnce();
        notariseChecks();
        notariseConflict();
        notariseWithoutInputs();
        verdictWaits();
        verdictAtEveryStage();
        verdictReceivers();
        verdictFails();
        finalityAnswers();
        finalityFails();
        tickEdges();
        consentEdges();
        consentIsAskedNow();
        lastCall();
        check.end();
    }

    private static Run run(String sentence) {
        return new Run(check, sentence);
    }

    private static int ask(int t, int sender, int receiver) {
        return Halls.code(Halls.ASK, sender, receiver, t, 0);
    }

    private static int reply(int t, int sender, int receiver, int content) {
        return Halls.code(Halls.REPLY, sender, receiver, t, content);
    }

    private static int notarise(int t, int sender, int notary) {
        return Halls.code(Halls.NOTARISE, sender, notary, t, 0);
    }

    private static int verdict(int t, int notary, int receiver, int content) {
        return Halls.code(Halls.VERDICT, notary, receiver, t, content);
    }

    private static int finality(int t, int sender, int receiver) {
        return Halls.code(Halls.FINALITY, sender, receiver, t, 0);
    }

    /** Transaction 0, begun by node 0, needs nodes 1 and 2 too: two ASK wait. */
    private static Run asked(String sentence, int notary) {
        return run(sentence).does("begin(0, " + notary + ", 0, 9)", "produce(0, 0, 1, 0, 5)",
                "produce(0, 0, 2, 0, 5)", "propose(0, false)");
    }

    /** Transaction 0, begun by node 0 alone, gives cash to nodes 1 and 2: one NOTARISE waits. */
    private static Run proposed(String sentence) {
        return run(sentence).does("begin(0, 4, 0, 9)", "produce(0, 0, 0, 1, 5)", "produce(0, 0, 0, 2, 5)",
                "propose(0, false)");
    }

    // ---- promises 9 and 10: places

    private static void deliverPlace() {
        Run none = run("9: -1 when there is no such message, none waiting");
        for (int k : new int[] {LEAST, -1, 0, 1, MOST}) {
            none.refused("deliver(" + k + ", false)", -1).refused("deliver(" + k + ", true)", -1);
        }
        Run run = asked("9: -1 when there is no such message, two waiting", 4);
        for (int k : new int[] {LEAST, -2, -1, 2, 3, 220, MOST}) {
            run.refused("deliver(" + k + ", false)", -1).refused("deliver(" + k + ", true)", -1);
        }
        run.fork().due("deliver(0, false)", TAKEN).due("message(0)", ask(0, 0, 2));
        run.due("deliver(1, false)", TAKEN).due("message(0)", ask(0, 0, 1)).due("message(1)", reply(0, 2, 0, 1));
        run.due("deliver(1, false)", TAKEN).refused("deliver(1, false)", -1).due("deliver(0, false)", TAKEN);
    }

    private static void messagePlace() {
        Run none = run("10: none waits").due("message(-1)", 0);
        for (int k : new int[] {LEAST, -2, 0, 1, MOST}) {
            none.refused("message(" + k + ")", -1);
        }
        Run run = asked("10: -1 when there is none; when k is -1, how many wait", 4)
                .due("message(-1)", 2)
                .due("message(0)", ask(0, 0, 1))
                .due("message(1)", ask(0, 0, 2));
        for (int k : new int[] {LEAST, -2, 2, 3, MOST}) {
            run.refused("message(" + k + ")", -1);
        }
    }

    private static void messageNumbers() {
        run("10: kind + 8 * sender + 64 * receiver + 512 * t + 16384 * content, the least")
                .does("begin(0, 5, 0, 9)", "produce(0, 0, 1, 0, 5)", "propose(0, false)")
                .due("message(0)", 64);
        Run run = run("10: kind + 8 * sender + 64 * receiver + 512 * t + 16384 * content, the greatest");
        run.does("begin(3, 5, 0, 9)", "produce(0, 0, 3, 3, 5)").finish(0);
        for (int t = 1; t < 20; t++) {
            run.does("begin(3, 5, 0, 9)");
        }
        run.does("consume(1, 0, 0)", "consume(19, 0, 0)")
                .finish(1)
                .does("propose(19, false)")
                .due("message(0)", 2 + 8 * 3 + 64 * 5 + 512 * 19)
                .due("deliver(0, false)", TAKEN)
                .due("message(0)", 3 + 8 * 5 + 64 * 3 + 512 * 19 + 16384 * 4)
                .due("deliver(0, false)", TAKEN)
                .due("stage(19)", 7);
    }

    /** All kinds of all 20 transactions wait at once. */
    private static void mostMessagesWait() {
        Run run = run("T: messages wait in the order in which they were sent, as many as there can be");
        for (int t = 0; t < 20; t++) {
            run.does("begin(0, 4, 0, 9)", "produce(" + t + ", 0, 1, 0, 5)", "produce(" + t + ", 0, 2, 0, 5)",
                    "produce(" + t + ", 0, 3, 0, 5)", "propose(" + t + ", false)");
        }
        deliverAllFrom(run, 0, 60, true);
        for (int i = 0; i < 60; i++) {
            run.does("deliver(60, false)");
        }
        run.due("message(-1)", 80);
        deliverAllFrom(run, 0, 80, true);
        run.due("message(-1)", 160).due("message(159)", verdict(19, 4, 0, 1));
        deliverAllFrom(run, 140, 160, true);
        run.due("message(-1)", 220)
                .due("message(0)", ask(0, 0, 1))
                .due("message(60)", notarise(0, 0, 4))
                .due("message(80)", reply(0, 1, 0, 1))
                .due("message(219)", finality(19, 0, 3))
                .due("message(220)", -1)
                .due("deliver(220, false)", -1)
                .due("deliver(0, true)", TAKEN)
                .due("deliver(60, true)", TAKEN)
                .due("deliver(140, true)", TAKEN)
                .due("message(-1)", 220)
                .due("deliver(219, false)", TAKEN)
                .due("message(219)", -1)
                .due("message(218)", finality(19, 0, 2))
                .due("standing(3, 19)", 2);
    }

    private static void deliverAllFrom(Run run, int first, int end, boolean fails) {
        for (int k = first; k < end; k++) {
            run.does("deliver(" + k + ", " + fails + ")");
        }
    }

    // ---- sending

    private static void likeAWaitingOne() {
        Run run = asked("T: one that is like a waiting one in everything is not sent again", 4)
                .does("deliver(0, true)")
                .due("message(-1)", 3)
                .does("deliver(0, true)")
                .due("message(-1)", 3)
                .does("deliver(0, false)")
                .due("message(-1)", 2)
                .due("message(0)", ask(0, 0, 2))
                .due("message(1)", reply(0, 1, 0, 1));
        run.does("deliver(0, false)", "deliver(0, false)", "deliver(0, true)", "deliver(0, true)")
                .due("message(0)", reply(0, 2, 0, 1))
                .due("message(1)", notarise(0, 0, 4))
                .due("message(-1)", 2)
                .does("deliver(1, true)", "deliver(1, true)")
                .due("message(2)", verdict(0, 4, 0, 1))
                .due("message(-1)", 3);
        run.does("deliver(1, false)", "deliver(0, false)")
                .due("message(0)", verdict(0, 4, 0, 1))
                .due("message(1)", notarise(0, 0, 4))
                .does("deliver(1, true)")
                .due("message(-1)", 2);
        proposed("T: FINALITY that waits is not sent again")
                .does("deliver(0, false)", "deliver(0, true)", "deliver(0, true)")
                .due("message(-1)", 3)
                .does("deliver(1, false)", "deliver(0, false)")
                .due("message(-1)", 2)
                .due("message(0)", finality(0, 0, 2))
                .due("message(1)", finality(0, 0, 1));
    }

    private static void alikeButForOneThing() {
        asked("T: alike but for the receiver, or the sender", 4)
                .due("message(0)", ask(0, 0, 1))
                .due("message(1)", ask(0, 0, 2))
                .does("deliver(0, false)", "deliver(0, false)")
                .due("message(0)", reply(0, 1, 0, 1))
                .due("message(1)", reply(0, 2, 0, 1));
        run("T: alike but for the transaction")
                .does("begin(0, 4, 0, 9)", "begin(0, 4, 0, 9)")
                .due("propose(0, true)", 1)
                .due("propose(1, true)", 1)
                .due("message(-1)", 2)
                .does("deliver(0, false)", "deliver(0, false)")
                .due("message(0)", verdict(0, 4, 0, 3))
                .due("message(1)", verdict(1, 4, 0, 3));
        run("T: alike but for the content and the transaction")
                .does("begin(0, 4, 0, 9)", "produce(0, 0, 1, 0, 5)", "propose(0, false)", "deliver(0, true)",
                        "consent(1, 0, false)", "begin(0, 4, 0, 9)", "produce(1, 0, 1, 0, 5)", "propose(1, false)",
                        "deliver(2, false)", "deliver(0, false)")
                .due("message(-1)", 2)
                .due("message(0)", reply(0, 1, 0, 1))
                .due("message(1)", reply(1, 1, 0, 0));
    }

    private static void sentAgainWhenGone() {
        asked("T: one that is like one that is gone is sent again", 4)
                .does("deliver(0, true)", "deliver(2, false)")
                .due("message(-1)", 2)
                .due("signatures(0, false)", 3)
                .does("deliver(0, false)")
                .due("message(1)", reply(0, 1, 0, 1))
                .due("deliver(1, false)", COPY)
                .due("message(-1)", 1);
    }

    private static void staysAtItsPlace() {
        asked("T: when the receiver fails the message stays at its place", 4)
                .due("deliver(0, true)", TAKEN)
                .due("message(0)", ask(0, 0, 1))
                .due("message(1)", ask(0, 0, 2))
                .due("message(2)", reply(0, 1, 0, 1))
                .due("deliver(1, true)", TAKEN)
                .due("message(1)", ask(0, 0, 2))
                .due("message(3)", reply(0, 2, 0, 1))
                .due("deliver(1, false)", TAKEN)
                .due("message(0)", ask(0, 0, 1))
                .due("message(1)", reply(0, 1, 0, 1))
                .due("message(2)", reply(0, 2, 0, 1))
                .due("message(-1)", 3);
    }

    // ---- 0 ASK

    private static void askDecidesOnce() {
        asked("T: the receiver decides on t, if it has not: a yes", 4)
                .does("deliver(0, true)", "deliver(2, true)", "consent(1, 0, false)", "deliver(2, false)",
                        "deliver(0, false)")
                .due("message(1)", reply(0, 1, 0, 1));
        asked("T: the receiver decides on t, if it has not: a no", 4)
                .does("consent(1, 0, false)", "deliver(0, true)", "consent(1, 0, true)", "deliver(0, false)")
                .due("message(-1)", 2)
                .due("message(1)", reply(0, 1, 0, 0));
        asked("T: yes if it consents to the initiator now, not when it was asked", 4)
                .does("consent(1, 0, false)", "consent(1, 0, true)", "consent(2, 0, false)", "deliver(0, false)",
                        "deliver(0, false)")
                .due("message(0)", reply(0, 1, 0, 1))
                .due("message(1)", reply(0, 2, 0, 0));
    }

    private static void askDecisionIsKeptWhenFailing() {
        asked("T: decisions are kept for good, each node's for itself", 4)
                .does("consent(1, 0, false)", "deliver(0, true)", "consent(1, 0, true)", "deliver(0, true)")
                .due("message(-1)", 3)
                .due("message(2)", reply(0, 1, 0, 0))
                .does("deliver(1, true)")
                .due("message(3)", reply(0, 2, 0, 1))
                .does("consent(2, 0, false)", "deliver(0, true)", "deliver(1, true)")
                .due("message(-1)", 4);
    }

    private static void askFetchesForYes() {
        Run run = run("T: if its decision is yes it fetches for t")
                .does("begin(0, 4, 0, 9)", "produce(0, 0, 0, 0, 5)")
                .finish(0)
                .does("begin(0, 4, 0, 9)", "consume(1, 0, 0)", "produce(1, 0, 1, 0, 5)", "propose(1, false)");
        run.fork().due("deliver(0, false)", TAKEN)
                .due("standing(1, 0)", 1)
                .due("standing(1, 1)", 0)
                .due("fetched(1)", 1);
        run.fork().does("consent(1, 0, false)")
                .due("deliver(0, false)", TAKEN)
                .due("standing(1, 0)", 0)
                .due("fetched(1)", 0);
        run.fork().due("deliver(0, true)", TAKEN)
                .due("standing(1, 0)", 0)
                .due("fetched(1)", 0)
                .does("consent(1, 0, false)")
                .due("deliver(0, false)", TAKEN)
                .due("standing(1, 0)", 1)
                .due("fetched(1)", 1);
    }

    private static void askAfterTheEnd() {
        asked("T: ASK is TAKEN when t has been REFUSED already", 4)
                .does("consent(1, 0, false)", "deliver(0, false)", "deliver(1, false)")
                .due("stage(0)", 4)
                .due("deliver(0, false)", TAKEN)
                .due("message(0)", reply(0, 2, 0, 1))
                .due("deliver(0, false)", COPY)
                .due("signatures(0, false)", 1)
                .due("stage(0)", 4);
        run("T: ASK is TAKEN when t is FINAL already")
                .does("begin(0, 4, 0, 9)", "produce(0, 0, 1, 0, 5)", "propose(0, false)", "deliver(0, true)",
                        "deliver(1, false)", "deliver(1, false)", "deliver(1, false)")
                .due("stage(0)", 3)
                .due("deliver(0, false)", TAKEN)
                .due("message(0)", finality(0, 0, 1))
                .due("message(1)", reply(0, 1, 0, 1))
                .due("deliver(1, false)", COPY)
                .due("signatures(0, false)", 3);
    }

    // ---- 1 REPLY

    private static void replyOfEverySender() {
        Run run = asked("T: if the signatures of all nodes in NEEDS(t) are there", 5)
                .does("deliver(0, false)", "deliver(0, false)");
        run.fork().due("deliver(0, false)", TAKEN)
                .due("signatures(0, false)", 1 + 2)
                .due("stage(0)", 1)
                .due("message(-1)", 1)
                .due("deliver(0, false)", TAKEN)
                .due("signatures(0, false)", 1 + 2 + 4)
                .due("stage(0)", 2)
                .due("message(0)", notarise(0, 0, 5));
        run.fork().due("deliver(1, false)", TAKEN)
                .due("signatures(0, false)", 1 + 4)
                .due("stage(0)", 1)
                .due("deliver(0, false)", TAKEN)
                .due("stage(0)", 2)
                .due("message(-1)", 1);
    }

    private static void replyNo() {
        Run run = asked("T: if the content is 0, t becomes REFUSED", 4)
                .does("consent(2, 0, false)", "deliver(0, false)", "deliver(0, false)");
        run.fork().due("deliver(1, false)", TAKEN)
                .due("stage(0)", 4)
                .due("signatures(0, false)", 1)
                .due("deliver(0, false)", COPY)
                .due("signatures(0, false)", 1)
                .due("message(-1)", 0);
        run.fork().due("deliver(0, false)", TAKEN)
                .due("signatures(0, false)", 3)
                .due("deliver(0, true)", TAKEN)
                .due("stage(0)", 1)
                .due("message(-1)", 1)
                .due("deliver(0, false)", TAKEN)
                .due("stage(0)", 4)
                .due("signatures(0, false)", 3)
                .due("message(-1)", 0);
        asked("T: a second no is a COPY", 4)
                .does("consent(1, 0, false)", "consent(2, 0, false)", "deliver(0, false)", "deliver(0, false)")
                .due("deliver(0, false)", TAKEN)
                .due("deliver(0, false)", COPY)
                .due("stage(0)", 4);
    }

    private static void replyAtEveryStage() {
        Run run = asked("T: REPLY, otherwise nothing: COPY", 5).does("deliver(0, true)", "deliver(2, false)");
        Run there = run.fork().does("deliver(0, true)");
        there.due("stage(0)", 1).due("deliver(2, true)", COPY).due("deliver(2, false)", COPY);
        there.due("message(-1)", 2).due("signatures(0, false)", 3);
        Run notarising = run.does("deliver(1, false)", "deliver(1, false)").due("stage(0)", 2).does("deliver(0, true)");
        notarising.fork().due("deliver(2, false)", COPY)
                .due("stage(0)", 2)
                .due("message(-1)", 2)
                .due("message(1)", notarise(0, 0, 5));
        notarising.fork().does("deliver(1, false)", "deliver(2, false)")
                .due("stage(0)", 3)
                .due("deliver(1, false)", COPY)
                .due("stage(0)", 3);
        notarising.fork().does("tick(9)", "deliver(1, false)", "deliver(2, false)")
                .due("stage(0)", 5)
                .due("deliver(1, false)", COPY)
                .due("stage(0)", 5);
    }

    private static void replyFails() {
        asked("T: failing over a REPLY that is not the last sends nothing", 4)
                .does("deliver(0, false)")
                .due("deliver(1, true)", TAKEN)
                .due("signatures(0, false)", 1)
                .due("message(-1)", 2);
        asked("T: failing over the last REPLY sends NOTARISE and changes nothing else", 4)
                .does("deliver(0, false)", "deliver(0, false)", "deliver(0, false)")
                .due("deliver(0, true)", TAKEN)
                .due("signatures(0, false)", 3)
                .due("stage(0)", 1)
                .due("message(0)", reply(0, 2, 0, 1))
                .due("message(1)", notarise(0, 0, 4))
                .due("message(-1)", 2);
    }

    // ---- 2 NOTARISE

    private static void notariseWindow() {
        int[][] windows = {{0, 1}, {3, 4}, {3, 6}, {0, 1000}, {999, 1000}};
        for (int[] w : windows) {
            for (int clock : new int[] {0, w[0] - 1, w[0], w[1] - 1, w[1], w[1] + 1}) {
                if (clock < 0 || clock > 1000) {
                    continue;
                }
                boolean inTime = w[0] <= clock && clock < w[1];
                run("T: 2 LATE unless FROM <= clock < UNTIL")
                        .does("begin(0, 5, " + w[0] + ", " + w[1] + ")", "produce(0, 0, 0, 0, 1)",
                                "propose(0, false)")
                        .due("tick(" + clock + ")", clock)
                        .due("verdict(0)", 0)
                        .due("deliver(0, false)", TAKEN)
                        .due("verdict(0)", inTime ? 1 : 2)
                        .due("message(0)", verdict(0, 5, 0, inTime ? 1 : 2))
                        .due("deliver(0, false)", TAKEN)
                        .due("stage(0)", inTime ? 3 : 5);
            }
        }
    }

    private static void notariseFarWindow() {
        for (int after = 0; after <= 1; after++) {
            Run run = run("T: LATE unless FROM <= clock < UNTIL, far on")
                    .does("begin(0, 4, 490000, 490001)", "produce(0, 0, 0, 0, 1)", "propose(0, false)");
            for (int i = 0; i < 490; i++) {
                run.does("tick(1000)");
            }
            run.due("tick(" + after + ")", 490000 + after)
                    .due("deliver(0, false)", TAKEN)
                    .due("verdict(0)", after == 0 ? 1 : 2);
        }
    }

    /** Transaction 0 gives node 0 a coin that 1 uses up; transaction 2 wants it too, and is not SOUND. */
    private static Run wanted(String sentence, int notary, boolean haste) {
        return run(sentence)
                .does("begin(0, " + notary + ", 0, 9)", "produce(0, 0, 0, 0, 5)")
                .finish(0)
                .does("begin(0, " + notary + ", 0, 9)", "consume(1, 0, 0)", "begin(0, " + notary + ", 0, 9)",
                        "consume(2, 0, 0)", haste ? "produce(2, 0, 1, 0, 5)" : "produce(2, 0, 0, 0, 5)")
                .finish(1)
                .does("propose(2, " + haste + ")");
    }

    private static void notariseOrder() {
        wanted("T: LATE, else FAULTY, else CONFLICT: all three", 4, true)
                .does("tick(9)", "deliver(0, false)")
                .due("verdict(2)", 2);
        wanted("T: FAULTY, else CONFLICT: both", 4, true).does("tick(8)", "deliver(0, false)").due("verdict(2)", 3);
        wanted("T: else CONFLICT, with the plain notary", 5, true).does("deliver(0, false)").due("verdict(2)", 4);
        wanted("T: LATE, else CONFLICT: both", 5, false).does("tick(9)", "deliver(0, false)").due("verdict(2)", 2);
        wanted("T: else CONFLICT", 4, false).does("deliver(0, false)")
                .due("verdict(2)", 4)
                .due("spender(0, 0)", 1)
                .does("deliver(0, false)")
                .due("stage(2)", 7);
    }

    private static void notariseOnce() {
        Run run = run("T: the notary gives a verdict if it has given none")
                .does("begin(0, 4, 2, 9)", "produce(0, 0, 0, 0, 1)", "propose(0, false)");
        run.fork().does("tick(1)", "deliver(0, true)")
                .due("verdict(0)", 2)
                .does("tick(1)", "deliver(0, false)")
                .due("verdict(0)", 2)
                .due("message(-1)", 1)
                .due("message(0)", verdict(0, 4, 0, 2));
        run.fork().does("tick(8)", "deliver(0, true)")
                .due("verdict(0)", 1)
                .does("tick(1)", "deliver(0, false)")
                .due("verdict(0)", 1)
                .due("message(-1)", 1);
        run("T: what a COMMITTED transaction has used up is no CONFLICT for itself")
                .does("begin(0, 4, 0, 9)", "produce(0, 0, 0, 0, 5)")
                .finish(0)
                .does("begin(0, 4, 0, 9)", "consume(1, 0, 0)", "propose(1, false)", "deliver(0, true)")
                .due("spender(0, 0)", 1)
                .due("deliver(0, true)", TAKEN)
                .due("verdict(1)", 1)
                .due("message(-1)", 2)
                .due("deliver(1, false)", TAKEN)
                .due("deliver(0, false)", TAKEN)
                .due("message(0)", verdict(1, 4, 0, 1))
                .due("deliver(0, false)", COPY)
                .due("stage(1)", 3);
    }

    private static void notariseChecks() {
        String[] unsound = {"produce(0, 0, 1, 0, 5)", "produce(0, 1, 1, 0, 5)", "tick(0)"};
        for (String output : unsound) {
            for (int notary = 4; notary <= 5; notary++) {
                run("T: FAULTY if it is the checking notary and t is not SOUND")
                        .does("begin(0, " + notary + ", 0, 9)", output, "propose(0, true)", "deliver(0, false)")
                        .due("verdict(0)", notary == 4 ? 3 : 1)
                        .does("deliver(0, false)")
                        .due("stage(0)", notary == 4 ? 6 : 8)
                        .due("standing(0, 0)", 0);
            }
        }
        for (int notary = 4; notary <= 5; notary++) {
            run("T: SOUND in haste when NEEDS(t) is the initiator alone")
                    .does("begin(0, " + notary + ", 0, 9)", "produce(0, 0, 0, 1, 5)", "propose(0, true)",
                            "deliver(0, false)")
                    .due("verdict(0)", 1)
                    .does("deliver(0, false)")
                    .due("stage(0)", 3)
                    .due("deliver(0, false)", TAKEN)
                    .due("standing(1, 0)", 2);
        }
        asked("T: SOUND when it was not proposed in haste", 4).deliverAll().due("verdict(0)", 1).due("stage(0)", 3);
    }

    private static void notariseConflict() {
        Run run = run("T: CONFLICT if an input of t is used up, whichever it is")
                .does("begin(0, 4, 0, 9)", "produce(0, 0, 0, 0, 1)", "produce(0, 0, 0, 0, 2)",
                        "produce(0, 0, 0, 0, 3)", "produce(0, 0, 0, 0, 4)")
                .finish(0)
                .does("begin(0, 4, 0, 9)", "begin(0, 4, 0, 9)", "consume(2, 0, 0)", "consume(2, 0, 1)",
                        "consume(2, 0, 2)", "consume(2, 0, 3)");
        for (int o = 0; o < 4; o++) {
            Run one = run.fork().does("consume(1, 0, " + o + ")").finish(1).finish(2);
            one.due("verdict(2)", 4).due("stage(2)", 7);
            for (int other = 0; other < 4; other++) {
                one.due("spender(0, " + other + ")", other == o ? 1 : -1);
            }
        }
        Run all = run.fork().finish(2).due("verdict(2)", 1);
        for (int o = 0; o < 4; o++) {
            all.due("spender(0, " + o + ")", 2);
        }
        run.does("begin(0, 4, 0, 9)", "produce(3, 0, 0, 0, 9)")
                .finish(3)
                .does("consume(1, 3, 0)")
                .finish(1)
                .finish(2)
                .due("verdict(2)", 1);
    }

    private static void notariseWithoutInputs() {
        run("T: COMMITTED, without inputs nothing is used up")
                .does("begin(0, 4, 0, 9)", "produce(0, 0, 0, 0, 1)")
                .finish(0)
                .due("verdict(0)", 1)
                .due("spender(0, 0)", -1);
    }

    // ---- 3 VERDICT

    private static void verdictWaits() {
        Run run = asked("T: VERDICT, if t is SIGNING: nothing, WAITS", 4)
                .does("deliver(0, false)", "deliver(0, false)", "deliver(0, false)", "deliver(0, true)",
                        "deliver(1, false)")
                .due("verdict(0)", 1)
                .due("message(1)", verdict(0, 4, 0, 1));
        for (int i = 0; i < 2; i++) {
            run.due("deliver(1, true)", WAITS)
                    .due("deliver(1, false)", WAITS)
                    .due("stage(0)", 1)
                    .due("standing(0, 0)", 0)
                    .due("message(-1)", 2)
                    .due("message(1)", verdict(0, 4, 0, 1));
        }
        run.due("deliver(0, false)", TAKEN).due("stage(0)", 2).due("deliver(0, false)", TAKEN).due("stage(0)", 3);
    }

    private static void verdictAtEveryStage() {
        String[] leads = {"tick(0)", "tick(9)"};
        int[] stages = {3, 5};
        for (int i = 0; i < leads.length; i++) {
            Run run = proposed("T: VERDICT at stage " + stages[i] + ": COPY")
                    .does(leads[i], "deliver(0, true)")
                    .due("deliver(1, false)", TAKEN)
                    .due("stage(0)", stages[i])
                    .does("deliver(0, false)");
            int last = i == 0 ? 2 : 0;
            run.due("message(" + last + ")", verdict(0, 4, 0, i + 1))
                    .due("deliver(" + last + ", true)", COPY)
                    .due("deliver(" + last + ", false)", COPY)
                    .due("message(-1)", last)
                    .due("stage(0)", stages[i]);
        }
        for (int notary = 4; notary <= 5; notary++) {
            int stage = notary == 4 ? 6 : 8;
            run("T: VERDICT at stage " + stage + ": COPY")
                    .does("begin(0, " + notary + ", 0, 9)", "propose(0, true)", "deliver(0, true)")
                    .due("deliver(1, false)", TAKEN)
                    .due("stage(0)", stage)
                    .does("deliver(0, false)")
                    .due("deliver(0, false)", COPY)
                    .due("stage(0)", stage)
                    .due("message(-1)", 0);
        }
        wanted("T: VERDICT at stage 7: COPY", 4, false)
                .does("deliver(0, true)")
                .due("deliver(1, false)", TAKEN)
                .due("stage(2)", 7)
                .does("deliver(0, false)")
                .due("deliver(0, false)", COPY)
                .due("stage(2)", 7);
    }

    /** The outputs of a transaction that node 1 begins, and the nodes that get FINALITY of it. */
    private static void verdictReceivers() {
        Object[][] cases = {
            {"produce(0, 2, 0, 0, 1)", new int[] {}},
            {"produce(0, 0, 1, 1, 1)", new int[] {}},
            {"produce(0, 0, 1, 0, 1)", new int[] {0}},
            {"produce(0, 0, 1, 3, 1)", new int[] {3}},
            {"produce(0, 0, 3, 1, 1)", new int[] {3}},
            {"produce(0, 0, 3, 0, 1)", new int[] {0, 3}},
            {"produce(0, 1, 1, 2, 1)", new int[] {2}},
            {"produce(0, 1, 2, 1, 1)", new int[] {2}},
            {"produce(0, 1, 3, 2, 1)", new int[] {2, 3}}};
        for (Object[] c : cases) {
            for (String haste : new String[] {"false", "true"}) {
                Run run = run("T: FINALITY to all nodes, without the initiator, in NEEDS(t) or concerned")
                        .does("begin(1, 5, 0, 9)", (String) c[0], "propose(0, " + haste + ")");
                int[] nodes = (int[]) c[1];
                expectFinality(run, nodes);
            }
        }
        run("T: the issuer whose total is the same, and who owns nothing, gets no FINALITY")
                .does("begin(0, 4, 0, 9)", "produce(0, 0, 0, 1, 5)")
                .finish(0)
                .does("begin(1, 4, 0, 9)", "consume(1, 0, 0)", "produce(1, 0, 0, 2, 5)", "propose(1, false)",
                        "deliver(0, false)", "deliver(0, false)")
                .due("message(-1)", 1)
                .due("message(0)", finality(1, 1, 2));
    }

    private static void expectFinality(Run run, int[] nodes) {
        for (int i = 0; i < 20 && run.answers("stage(0)") < 3; i++) {
            run.does("deliver(0, false)");
        }
        run.due("message(-1)", nodes.length);
        for (int k = 0; k < nodes.length; k++) {
            run.due("message(" + k + ")", finality(0, 1, nodes[k]));
        }
    }

    private static void verdictFails() {
        Run run = proposed("T: failing over a VERDICT sends FINALITY and changes nothing else")
                .does("deliver(0, false)");
        run.fork().due("deliver(0, true)", TAKEN)
                .due("stage(0)", 2)
                .due("standing(0, 0)", 0)
                .due("message(0)", verdict(0, 4, 0, 1))
                .due("message(1)", finality(0, 0, 1))
                .due("message(2)", finality(0, 0, 2))
                .due("message(-1)", 3);
        proposed("T: failing over a VERDICT that is not COMMITTED sends nothing")
                .does("tick(9)", "deliver(0, false)")
                .due("deliver(0, true)", TAKEN)
                .due("stage(0)", 2)
                .due("message(-1)", 1)
                .due("deliver(0, false)", TAKEN)
                .due("stage(0)", 5)
                .due("message(-1)", 0);
    }

    // ---- 4 FINALITY

    private static void finalityAnswers() {
        proposed("T: FINALITY, if the receiver has recorded t: COPY")
                .does("deliver(0, false)", "deliver(0, true)")
                .due("deliver(1, false)", TAKEN)
                .due("standing(1, 0)", 2)
                .does("deliver(0, false)")
                .due("message(0)", finality(0, 0, 2))
                .due("message(1)", finality(0, 0, 1))
                .due("deliver(1, true)", COPY)
                .due("message(-1)", 2)
                .due("deliver(1, false)", COPY)
                .due("message(-1)", 1)
                .due("deliver(0, false)", TAKEN);
        run("T: FINALITY, if the receiver only knows t: TAKEN")
                .does("begin(0, 4, 0, 9)", "produce(0, 0, 0, 1, 5)", "produce(0, 0, 0, 0, 5)", "propose(0, false)",
                        "deliver(0, false)", "deliver(0, false)", "begin(0, 4, 0, 9)", "consume(1, 0, 1)",
                        "produce(1, 0, 0, 1, 5)", "propose(1, false)", "deliver(1, false)", "deliver(1, false)")
                .due("deliver(1, false)", TAKEN)
                .due("standing(1, 0)", 1)
                .due("fetched(1)", 1)
                .due("deliver(0, false)", TAKEN)
                .due("standing(1, 0)", 2)
                .due("fetched(1)", 1);
        run("T: FINALITY, if t is not SOUND: REJECTED")
                .does("begin(0, 5, 0, 9)", "produce(0, 0, 1, 2, 5)", "propose(0, true)", "deliver(0, false)",
                        "deliver(0, false)")
                .due("message(-1)", 2)
                .due("deliver(0, true)", REJECTED)
                .due("message(-1)", 2)
                .due("deliver(0, false)", REJECTED)
                .due("message(-1)", 1)
                .due("standing(1, 0)", 0)
                .due("fetched(1)", 0)
                .due("deliver(0, false)", REJECTED)
                .due("standing(2, 0)", 0)
                .due("vault(2, -1)", 0);
    }

    private static void finalityFails() {
        run("T: failing over FINALITY changes nothing")
                .does("begin(0, 4, 0, 9)", "produce(0, 0, 0, 0, 5)")
                .finish(0)
                .does("begin(0, 4, 0, 9)", "consume(1, 0, 0)", "produce(1, 0, 0, 1, 5)", "propose(1, false)",
                        "deliver(0, false)", "deliver(0, false)")
                .due("deliver(0, true)", TAKEN)
                .due("standing(1, 0)", 0)
                .due("standing(1, 1)", 0)
                .due("fetched(1)", 0)
                .due("message(-1)", 1)
                .due("deliver(0, false)", TAKEN)
                .due("standing(1, 0)", 1)
                .due("standing(1, 1)", 2)
                .due("fetched(1)", 1)
                .due("vault(1, 0)", 4);
    }

    // ---- promise 11

    private static void tickEdges() {
        Run run = run("11: the clock goes on by n when n is 0 .. 1000 (otherwise it stays)").due("tick(0)", 0);
        for (int n : new int[] {LEAST, -1000, -1, 1001, MOST}) {
            run.refused("tick(" + n + ")", 0);
        }
        run.due("tick(1000)", 1000);
        for (int n : new int[] {LEAST, -1000, -1, 1001, MOST}) {
            run.refused("tick(" + n + ")", 1000);
        }
        run.due("tick(1)", 1001).due("tick(999)", 2000).due("tick(0)", 2000).due("tick(1000)", 3000);
    }

    // ---- promise 12

    private static void consentEdges() {
        Run run = run("12: false when one of them is not 0 .. 3, or both are the same");
        Run dissent = run("12: false, when some do not consent").does("consent(0, 3, false)", "consent(3, 0, false)");
        for (Run each : new Run[] {run, dissent}) {
            for (String on : new String[] {"true", "false"}) {
                for (int n : new int[] {LEAST, -1, 4, 32, MOST}) {
                    for (int node = 0; node < 4; node++) {
                        each.refused("consent(" + n + ", " + node + ", " + on + ")", 0);
                        each.refused("consent(" + node + ", " + n + ", " + on + ")", 0);
                    }
                    each.refused("consent(" + n + ", " + n + ", " + on + ")", 0);
                }
                for (int node = 0; node < 4; node++) {
                    each.refused("consent(" + node + ", " + node + ", " + on + ")", 0);
                }
            }
        }
        run.due("consent(0, 3, true)", 1).due("consent(3, 0, false)", 1).due("consent(3, 0, false)", 1);
        dissent.due("consent(0, 3, false)", 1).due("consent(3, 0, true)", 1).due("consent(3, 0, true)", 1);
    }

    /** Each pair is one question of its own: only that node, and only to that initiator, says no. */
    private static void consentIsAskedNow() {
        for (int node = 0; node < 4; node++) {
            for (int other = 0; other < 4; other++) {
                if (node != other) {
                    onlyOneDissents(node, other);
                }
            }
        }
    }

    private static void onlyOneDissents(int node, int other) {
        Run run = run("12: node consents to transactions begun by other, or does not")
                .due("consent(" + node + ", " + other + ", false)", 1);
        for (int initiator = 0; initiator < 4; initiator++) {
            run.does("begin(" + initiator + ", 5, 0, 9)");
            for (int issuer = 0; issuer < 4; issuer++) {
                run.does("produce(" + initiator + ", 0, " + issuer + ", 0, 1)");
            }
            run.finish(initiator).due("stage(" + initiator + ")", initiator == other ? 4 : 3);
        }
        run.due("consent(" + node + ", " + other + ", true)", 1);
        for (int initiator = 0; initiator < 4; initiator++) {
            int t = 4 + initiator;
            run.does("begin(" + initiator + ", 5, 0, 9)", "produce(" + t + ", 0, " + node + ", 0, 1)")
                    .finish(t)
                    .due("stage(" + t + ")", 3);
        }
    }

    // ---- what it is

    private static void lastCall() {
        Run run = run("an object is used for at most 512 calls");
        for (int call = 1; call <= 512; call++) {
            run.due("tick(1000)", 1000 * call);
        }
    }
}
