/** Promises 9 to 12: deliveries, failing receivers, the clock and consent. */
public final class MessagesTest {
    private static final Check check = new Check();

    public static void main(String[] args) {
        noSuchMessage();
        ask();
        askFails();
        decisionsAreKeptApart();
        replies();
        replyRefuses();
        replyFails();
        notariseLate();
        notariseFaulty();
        notariseConflict();
        notariseFails();
        verdictStages();
        verdictFails();
        verdictVoid();
        finality();
        finalityFails();
        committedWhileSigning();
        copiesDoNotWait();
        anyOrder();
        tick();
        consent();
        check.end();
    }

    private static void noSuchMessage() {
        NotaryHall x = new NotaryHall();
        check.due("deliver(0) of none", x.deliver(0, false), -1);
        check.due("deliver(-1)", x.deliver(-1, true), -1);
        int t = Halls.draft(x, 0, Halls.CHECKING);
        x.propose(t, true);
        check.due("deliver(1) of one", x.deliver(1, false), -1);
        check.due("message(1) of one", x.message(1), -1);
        check.due("message(-2)", x.message(-2), -1);
        check.due("message(-1)", x.message(-1), 1);
        check.due("message(0)", x.message(0), Halls.code(Halls.NOTARISE, 0, 4, t, 0));
    }

    private static int askedOf1(NotaryHall x, int amount) {
        int t = Halls.draft(x, 0, Halls.PLAIN);
        x.produce(t, Halls.CASH, 1, 0, amount);
        x.propose(t, false);
        return t;
    }

    private static void ask() {
        NotaryHall x = new NotaryHall();
        int first = Halls.issue(x, 0, 0, 10, Halls.PLAIN);
        int t = Halls.draft(x, 0, Halls.PLAIN);
        x.consume(t, first, 0);
        x.produce(t, Halls.CASH, 0, 0, 10);
        x.produce(t, Halls.CASH, 1, 0, 10);
        x.propose(t, false);
        check.due("ask: TAKEN", x.deliver(0, false), 2);
        check.due("ask: REPLY yes", x.message(0), Halls.code(Halls.REPLY, 1, 0, t, 1));
        check.due("ask: fetched", x.fetched(1), 1);
        check.due("ask: knows what came before", x.standing(1, first), 1);
        check.due("ask: does not know t", x.standing(1, t), 0);
        x.consent(2, 0, false);
        int u = Halls.draft(x, 0, Halls.PLAIN);
        x.consume(u, first, 0);
        x.produce(u, Halls.CASH, 2, 0, 10);
        x.produce(u, Halls.CASH, 0, 0, 10);
        x.propose(u, false);
        check.due("ask: TAKEN for a no", x.deliver(1, false), 2);
        check.due("ask: REPLY no", x.message(1), Halls.code(Halls.REPLY, 2, 0, u, 0));
        check.due("ask: a no fetches nothing", x.fetched(2), 0);
        check.due("ask: a no knows nothing", x.standing(2, first), 0);
    }

    private static void askFails() {
        NotaryHall x = new NotaryHall();
        int first = Halls.issue(x, 0, 0, 10, Halls.PLAIN);
        int t = Halls.draft(x, 0, Halls.PLAIN);
        x.consume(t, first, 0);
        x.produce(t, Halls.CASH, 0, 0, 10);
        x.produce(t, Halls.CASH, 1, 0, 10);
        x.propose(t, false);
        check.due("ask fails: TAKEN", x.deliver(0, true), 2);
        check.due("ask fails: stays", x.message(0), Halls.code(Halls.ASK, 0, 1, t, 0));
        check.due("ask fails: REPLY is sent", x.message(1), Halls.code(Halls.REPLY, 1, 0, t, 1));
        check.due("ask fails: nothing fetched", x.fetched(1), 0);
        x.consent(1, 0, false);
        check.due("ask fails: again", x.deliver(0, true), 2);
        check.due("ask fails: the decision is kept, its copy not sent", x.message(-1), 2);
        check.due("ask fails: then not", x.deliver(0, false), 2);
        check.due("ask fails: yes still fetches", x.fetched(1), 1);
        check.due("ask fails: one REPLY", x.message(-1), 1);
        x.deliver(0, false);
        check.due("ask fails: signed", x.signatures(t, false), 3);

        NotaryHall y = new NotaryHall();
        y.consent(1, 0, false);
        int u = askedOf1(y, 7);
        y.deliver(0, true);
        y.consent(1, 0, true);
        y.deliver(0, false);
        check.due("ask fails: a no is kept", y.message(-1), 1);
        check.due("ask fails: REPLY no", y.message(0), Halls.code(Halls.REPLY, 1, 0, u, 0));
    }

    private static void decisionsAreKeptApart() {
        NotaryHall x = new NotaryHall();
        int t = Halls.draft(x, 0, Halls.CHECKING);
        x.produce(t, Halls.CASH, 1, 0, 10);
        x.produce(t, Halls.CASH, 2, 0, 10);
        x.consent(1, 0, false);
        x.propose(t, false);
        x.deliver(0, true);
        x.deliver(1, true);
        x.consent(1, 0, true);
        x.deliver(0, true);
        check.due("decisions: 1 says no still", x.message(-1), 4);
        check.due("decisions: of 1", x.message(2), Halls.code(Halls.REPLY, 1, 0, t, 0));
        check.due("decisions: of 2", x.message(3), Halls.code(Halls.REPLY, 2, 0, t, 1));
        int other = askedOf1(x, 10);
        x.deliver(4, false);
        check.due("decisions: on another transaction", x.message(4), Halls.code(Halls.REPLY, 1, 0, other, 1));
    }

    private static void replies() {
        NotaryHall x = new NotaryHall();
        int t = Halls.draft(x, 0, Halls.CHECKING);
        x.produce(t, Halls.CASH, 1, 0, 10);
        x.produce(t, Halls.CASH, 2, 0, 10);
        x.propose(t, false);
        x.deliver(1, true);
        x.deliver(0, false);
        check.due("reply: 2 first", x.message(1), Halls.code(Halls.REPLY, 2, 0, t, 1));
        check.due("reply: TAKEN", x.deliver(1, false), 2);
        check.due("reply: one signature more", x.signatures(t, false), 5);
        check.due("reply: SIGNING still", x.stage(t), 1);
        check.due("reply: the ASK once more", x.deliver(0, false), 2);
        check.due("reply: 1, then 2 again", x.message(1), Halls.code(Halls.REPLY, 2, 0, t, 1));
        check.due("reply: COPY of 2", x.deliver(1, false), 1);
        check.due("reply: COPY is gone", x.message(-1), 1);
        check.due("reply: the last", x.deliver(0, false), 2);
        check.due("reply: all signed", x.signatures(t, false), 7);
        check.due("reply: NOTARISING", x.stage(t), 2);
        check.due("reply: NOTARISE", x.message(0), Halls.code(Halls.NOTARISE, 0, 4, t, 0));
    }

    private static void replyRefuses() {
        NotaryHall x = new NotaryHall();
        int t = Halls.draft(x, 0, Halls.CHECKING);
        x.produce(t, Halls.CASH, 1, 0, 10);
        x.produce(t, Halls.CASH, 2, 0, 10);
        x.consent(1, 0, false);
        x.propose(t, false);
        x.deliver(0, false);
        x.deliver(0, false);
        check.due("refuse: a failing no", x.deliver(0, true), 2);
        check.due("refuse: SIGNING still", x.stage(t), 1);
        check.due("refuse: TAKEN", x.deliver(0, false), 2);
        check.due("refuse: REFUSED", x.stage(t), 4);
        check.due("refuse: a yes afterwards is a COPY", x.deliver(0, false), 1);
        check.due("refuse: no signature more", x.signatures(t, false), 1);
        check.due("refuse: REFUSED still", x.stage(t), 4);
        check.due("refuse: nothing waits", x.message(-1), 0);
    }

    private static void replyFails() {
        NotaryHall x = new NotaryHall();
        int t = askedOf1(x, 10);
        x.deliver(0, false);
        check.due("reply fails: TAKEN", x.deliver(0, true), 2);
        check.due("reply fails: not signed", x.signatures(t, false), 1);
        check.due("reply fails: SIGNING", x.stage(t), 1);
        check.due("reply fails: NOTARISE is sent", x.message(1), Halls.code(Halls.NOTARISE, 0, 5, t, 0));
        x.deliver(1, false);
        check.due("reply fails: VERDICT", x.message(1), Halls.code(Halls.VERDICT, 5, 0, t, 1));
        check.due("reply fails: VERDICT waits", x.deliver(1, false), 0);
        check.due("reply fails: VERDICT waits, failing", x.deliver(1, true), 0);
        check.due("reply fails: both are there", x.message(-1), 2);
        check.due("reply fails: then not", x.deliver(0, false), 2);
        check.due("reply fails: VERDICT is first now", x.message(0), Halls.code(Halls.VERDICT, 5, 0, t, 1));
        check.due("reply fails: NOTARISE again", x.message(1), Halls.code(Halls.NOTARISE, 0, 5, t, 0));
        check.due("reply fails: NOTARISE again is TAKEN", x.deliver(1, false), 2);
        check.due("reply fails: the same VERDICT", x.message(-1), 1);
        check.due("reply fails: VERDICT TAKEN", x.deliver(0, false), 2);
        check.due("reply fails: FINAL", x.stage(t), 3);

        NotaryHall y = new NotaryHall();
        int u = Halls.draft(y, 0, Halls.CHECKING);
        y.produce(u, Halls.CASH, 1, 0, 10);
        y.produce(u, Halls.CASH, 2, 0, 10);
        y.propose(u, false);
        y.deliver(0, false);
        check.due("reply fails: not the last", y.deliver(1, true), 2);
        check.due("reply fails: then no NOTARISE", y.message(-1), 2);
    }

    private static void notariseLate() {
        int[][] cases = {{9, 2}, {10, 1}, {19, 1}, {20, 2}};
        for (int[] c : cases) {
            NotaryHall x = new NotaryHall();
            int t = x.begin(0, Halls.PLAIN, 10, 20);
            x.produce(t, Halls.CASH, 0, 0, 1);
            x.propose(t, false);
            x.tick(c[0]);
            check.due("notarise: no verdict yet", x.verdict(t), 0);
            check.due("notarise: TAKEN", x.deliver(0, false), 2);
            check.due("notarise at " + c[0], x.verdict(t), c[1]);
            check.due("notarise: VERDICT", x.message(0), Halls.code(Halls.VERDICT, 5, 0, t, c[1]));
        }
        NotaryHall y = new NotaryHall();
        int late = y.begin(0, Halls.CHECKING, 10, 20);
        y.propose(late, true);
        y.deliver(0, false);
        check.due("notarise: LATE before FAULTY", y.verdict(late), 2);
    }

    private static void notariseFaulty() {
        for (int notary = 4; notary <= 5; notary++) {
            NotaryHall x = new NotaryHall();
            int empty = Halls.draft(x, 0, notary);
            x.propose(empty, true);
            x.deliver(0, false);
            check.due("faulty: not VALID, notary " + notary, x.verdict(empty), notary == 4 ? 3 : 1);
            x.deliver(0, false);
            int unsigned = Halls.draft(x, 0, notary);
            x.produce(unsigned, Halls.CASH, 1, 0, 5);
            x.propose(unsigned, true);
            x.deliver(0, false);
            check.due("faulty: not signed, notary " + notary, x.verdict(unsigned), notary == 4 ? 3 : 1);
            x.deliver(0, false);
            x.deliver(0, false);
            int alone = Halls.draft(x, 0, notary);
            x.produce(alone, Halls.CASH, 0, 1, 5);
            x.propose(alone, true);
            x.deliver(0, false);
            check.due("faulty: haste alone is SOUND, notary " + notary, x.verdict(alone), 1);
            x.deliver(0, false);
            check.due("faulty: haste alone is FINAL, notary " + notary, x.stage(alone), 3);
        }
        NotaryHall y = new NotaryHall();
        int asked = Halls.draft(y, 0, Halls.CHECKING);
        y.produce(asked, Halls.CASH, 1, 0, 5);
        Halls.finish(y, asked);
        check.due("faulty: without haste it is SOUND", y.stage(asked), 3);
    }

    private static void notariseConflict() {
        NotaryHall x = new NotaryHall();
        int u = Halls.draft(x, 0, Halls.CHECKING);
        for (int i = 0; i < 4; i++) {
            x.produce(u, Halls.CASH, 0, 0, 10 + i);
        }
        Halls.finish(x, u);
        int first = Halls.draft(x, 0, Halls.CHECKING);
        x.consume(first, u, 1);
        x.consume(first, u, 2);
        int second = Halls.draft(x, 0, Halls.CHECKING);
        x.consume(second, u, 0);
        x.consume(second, u, 2);
        x.propose(first, false);
        x.propose(second, false);
        x.deliver(0, false);
        check.due("conflict: used up by the first", x.spender(u, 1), first);
        check.due("conflict: used up by the first", x.spender(u, 2), first);
        check.due("conflict: not used up", x.spender(u, 0), -1);
        x.deliver(0, false);
        check.due("conflict: CONFLICT", x.verdict(second), 4);
        check.due("conflict: uses up nothing", x.spender(u, 0), -1);
        check.due("conflict: keeps the first", x.spender(u, 2), first);
        int unsound = Halls.draft(x, 1, Halls.CHECKING);
        x.propose(unsound, true);
        int hasty = Halls.draft(x, 0, Halls.CHECKING);
        x.consume(hasty, u, 2);
        x.produce(hasty, Halls.CASH, 1, 0, 1);
        x.propose(hasty, true);
        x.deliver(3, false);
        check.due("conflict: FAULTY before CONFLICT", x.verdict(hasty), 3);
    }

    private static void notariseFails() {
        NotaryHall x = new NotaryHall();
        int u = Halls.issue(x, 0, 0, 10, Halls.PLAIN);
        int t = x.begin(0, Halls.PLAIN, 0, 20);
        x.consume(t, u, 0);
        x.propose(t, true);
        check.due("notarise fails: TAKEN", x.deliver(0, true), 2);
        check.due("notarise fails: the verdict is kept", x.verdict(t), 1);
        check.due("notarise fails: used up", x.spender(u, 0), t);
        check.due("notarise fails: stays", x.message(0), Halls.code(Halls.NOTARISE, 0, 5, t, 0));
        check.due("notarise fails: VERDICT is sent", x.message(1), Halls.code(Halls.VERDICT, 5, 0, t, 1));
        x.tick(500);
        check.due("notarise fails: again", x.deliver(0, false), 2);
        check.due("notarise fails: no second verdict", x.verdict(t), 1);
        check.due("notarise fails: no copy", x.message(-1), 1);
    }

    private static void verdictStages() {
        NotaryHall x = new NotaryHall();
        int late = x.begin(0, Halls.CHECKING, 10, 20);
        x.produce(late, Halls.CASH, 0, 1, 1);
        Halls.finish(x, late);
        check.due("verdict: LATE", x.stage(late), 5);
        int faulty = Halls.draft(x, 0, Halls.CHECKING);
        x.produce(faulty, Halls.CASH, 1, 2, 1);
        x.propose(faulty, true);
        x.deliver(0, false);
        check.due("verdict: failing", x.deliver(0, true), 2);
        check.due("verdict: failing changes nothing", x.stage(faulty), 2);
        check.due("verdict: TAKEN", x.deliver(0, false), 2);
        check.due("verdict: FAULTY", x.stage(faulty), 6);
        check.due("verdict: no FINALITY", x.message(-1), 0);
        int u = Halls.issue(x, 0, 0, 5, Halls.CHECKING);
        int first = Halls.draft(x, 0, Halls.CHECKING);
        x.consume(first, u, 0);
        x.produce(first, Halls.CASH, 0, 0, 5);
        int second = Halls.draft(x, 0, Halls.CHECKING);
        x.consume(second, u, 0);
        x.produce(second, Halls.CASH, 0, 1, 5);
        Halls.finish(x, first);
        Halls.finish(x, second);
        check.due("verdict: FINAL", x.stage(first), 3);
        check.due("verdict: recorded by the initiator", x.standing(0, first), 2);
        check.due("verdict: CONFLICT", x.stage(second), 7);
        check.due("verdict: not recorded", x.standing(0, second), 0);
    }

    private static void verdictFails() {
        NotaryHall x = new NotaryHall();
        int t = Halls.draft(x, 0, Halls.CHECKING);
        x.produce(t, Halls.CASH, 0, 3, 5);
        x.produce(t, Halls.DEBT, 0, 1, 5);
        x.propose(t, false);
        x.deliver(0, false);
        check.due("verdict fails: TAKEN", x.deliver(0, true), 2);
        check.due("verdict fails: NOTARISING", x.stage(t), 2);
        check.due("verdict fails: not known", x.standing(0, t), 0);
        check.due("verdict fails: FINALITY 1", x.message(1), Halls.code(Halls.FINALITY, 0, 1, t, 0));
        check.due("verdict fails: FINALITY 3", x.message(2), Halls.code(Halls.FINALITY, 0, 3, t, 0));
        check.due("verdict fails: others record", x.deliver(2, false), 2);
        check.due("verdict fails: recorded", x.standing(3, t), 2);
        check.due("verdict fails: then not", x.deliver(0, false), 2);
        check.due("verdict fails: FINAL", x.stage(t), 3);
        check.due("verdict fails: FINALITY 3 again", x.message(1), Halls.code(Halls.FINALITY, 0, 3, t, 0));
        check.due("verdict fails: a COPY", x.deliver(1, true), 1);
        check.due("verdict fails: a failing COPY stays", x.message(-1), 2);
        check.due("verdict fails: a COPY", x.deliver(1, false), 1);
        check.due("verdict fails: it is gone", x.message(-1), 1);
    }

    private static void verdictVoid() {
        NotaryHall x = new NotaryHall();
        int t = Halls.draft(x, 0, Halls.PLAIN);
        x.produce(t, Halls.CASH, 1, 2, 5);
        x.produce(t, Halls.LOCK, 0, 0, 5);
        x.propose(t, true);
        x.deliver(0, true);
        x.deliver(1, false);
        check.due("void: VOID", x.stage(t), 8);
        check.due("void: not known", x.standing(0, t), 0);
        check.due("void: FINALITY to who is needed", x.message(1), Halls.code(Halls.FINALITY, 0, 1, t, 0));
        check.due("void: FINALITY to who is concerned", x.message(2), Halls.code(Halls.FINALITY, 0, 2, t, 0));
        check.due("void: no more", x.message(-1), 3);
        x.deliver(0, false);
        check.due("void: the VERDICT again is a COPY", x.deliver(2, false), 1);
        check.due("void: failing REJECTED", x.deliver(0, true), 3);
        check.due("void: stays", x.message(-1), 2);
        check.due("void: REJECTED", x.deliver(0, false), 3);
        check.due("void: gone", x.message(-1), 1);
        check.due("void: not recorded", x.standing(1, t), 0);
    }

    private static void finality() {
        NotaryHall x = new NotaryHall();
        int a = Halls.issue(x, 0, 1, 10, Halls.CHECKING);
        int b = Halls.draft(x, 1, Halls.CHECKING);
        x.pay(b, 0, 1, 10);
        Halls.finish(x, b);
        int unrelated = Halls.issue(x, 0, 1, 99, Halls.CHECKING);
        int c = Halls.draft(x, 1, Halls.CHECKING);
        x.consume(c, b, 0);
        x.produce(c, Halls.CASH, 0, 3, 10);
        Halls.finish(x, c);
        check.due("finality: c", x.standing(3, c), 2);
        check.due("finality: b is fetched", x.standing(3, b), 1);
        check.due("finality: a is fetched, two deep", x.standing(3, a), 1);
        check.due("finality: no more is fetched", x.standing(3, unrelated), 0);
        check.due("finality: two fetched", x.fetched(3), 2);
        check.due("finality: who is not concerned gets nothing", x.standing(2, c), 0);
        check.due("finality: what is known is not fetched", x.fetched(1), 0);
    }

    private static void finalityFails() {
        NotaryHall x = new NotaryHall();
        int a = Halls.issue(x, 0, 0, 10, Halls.CHECKING);
        int b = Halls.draft(x, 0, Halls.CHECKING);
        x.pay(b, 0, 2, 10);
        x.propose(b, false);
        x.deliver(0, false);
        x.deliver(0, false);
        check.due("finality fails: TAKEN", x.deliver(0, true), 2);
        check.due("finality fails: stays", x.message(0), Halls.code(Halls.FINALITY, 0, 2, b, 0));
        check.due("finality fails: not recorded", x.standing(2, b), 0);
        check.due("finality fails: not fetched", x.standing(2, a), 0);
        check.due("finality fails: none counted", x.fetched(2), 0);
        check.due("finality fails: then not", x.deliver(0, false), 2);
        check.due("finality fails: counted", x.fetched(2), 1);
    }

    private static void committedWhileSigning() {
        NotaryHall x = new NotaryHall();
        int u = Halls.issue(x, 0, 0, 10, Halls.PLAIN);
        int t = Halls.draft(x, 0, Halls.PLAIN);
        x.consume(t, u, 0);
        x.produce(t, Halls.CASH, 1, 0, 10);
        x.propose(t, false);
        x.deliver(0, false);
        x.deliver(0, true);
        x.deliver(1, false);
        check.due("signing: committed all the same", x.verdict(t), 1);
        check.due("signing: used up", x.spender(u, 0), t);
        check.due("signing: the coin is in the vault", x.vault(0, -1), 1);
        check.due("signing: SIGNING", x.stage(t), 1);
        check.due("signing: WAITS", x.deliver(1, false), 0);
        check.due("signing: at its place", x.message(1), Halls.code(Halls.VERDICT, 5, 0, t, 1));
    }

    private static void copiesDoNotWait() {
        NotaryHall x = new NotaryHall();
        int t = askedOf1(x, 10);
        for (int i = 0; i < 5; i++) {
            check.due("copies: ASK", x.deliver(0, true), 2);
            check.due("copies: one REPLY waits", x.message(-1), 2);
        }
        for (int i = 0; i < 5; i++) {
            check.due("copies: REPLY", x.deliver(1, true), 2);
            check.due("copies: one NOTARISE waits", x.message(-1), 3);
        }
        int other = askedOf1(x, 10);
        x.deliver(3, false);
        check.due("copies: of another transaction", x.message(3), Halls.code(Halls.REPLY, 1, 0, other, 1));
        check.due("copies: stage", x.stage(t), 1);
    }

    private static void anyOrder() {
        NotaryHall x = new NotaryHall();
        int[] t = new int[3];
        for (int node = 0; node < 3; node++) {
            t[node] = Halls.draft(x, node, Halls.CHECKING);
            x.produce(t[node], Halls.CASH, node, 3, 1);
            x.propose(t[node], false);
        }
        check.due("order: the second", x.deliver(1, false), 2);
        check.due("order: the first stays first", x.message(0), Halls.code(Halls.NOTARISE, 0, 4, t[0], 0));
        check.due("order: the third is second", x.message(1), Halls.code(Halls.NOTARISE, 2, 4, t[2], 0));
        check.due("order: the new one is last", x.message(2), Halls.code(Halls.VERDICT, 4, 1, t[1], 1));
        check.due("order: the last", x.deliver(2, false), 2);
        check.due("order: FINALITY is last", x.message(2), Halls.code(Halls.FINALITY, 1, 3, t[1], 0));
        check.due("order: no place 3", x.deliver(3, false), -1);
    }

    private static void tick() {
        NotaryHall x = new NotaryHall();
        check.due("tick(-1)", x.tick(-1), 0);
        check.due("tick(1000)", x.tick(1000), 1000);
        check.due("tick(1001)", x.tick(1001), 1000);
        check.due("tick(0)", x.tick(0), 1000);
        check.due("tick(1)", x.tick(1), 1001);
        check.due("tick(least)", x.tick(Integer.MIN_VALUE), 1001);
        check.due("tick(most)", x.tick(Integer.MAX_VALUE), 1001);
    }

    private static void consent() {
        NotaryHall x = new NotaryHall();
        check.due("consent(-1, 0)", x.consent(-1, 0, true), false);
        check.due("consent(4, 0)", x.consent(4, 0, true), false);
        check.due("consent(0, -1)", x.consent(0, -1, false), false);
        check.due("consent(0, 4)", x.consent(0, 4, false), false);
        check.due("consent(2, 2)", x.consent(2, 2, false), false);
        check.due("consent(1, 0) off", x.consent(1, 0, false), true);
        check.due("consent(1, 0) off again", x.consent(1, 0, false), true);
        check.due("consent(0, 1) on", x.consent(0, 1, true), true);
        int t = askedOf1(x, 1);
        Halls.deliverAll(x);
        check.due("consent: refused", x.stage(t), 4);
        int byOther = Halls.draft(x, 2, Halls.PLAIN);
        x.produce(byOther, Halls.CASH, 1, 2, 1);
        Halls.finish(x, byOther);
        check.due("consent: to another still", x.stage(byOther), 3);
        int back = Halls.draft(x, 1, Halls.PLAIN);
        x.produce(back, Halls.CASH, 0, 1, 1);
        Halls.finish(x, back);
        check.due("consent: the other way still", x.stage(back), 3);
        check.due("consent(1, 0) on", x.consent(1, 0, true), true);
        int again = askedOf1(x, 1);
        Halls.deliverAll(x);
        check.due("consent: given again", x.stage(again), 3);
        int third = Halls.draft(x, 2, Halls.PLAIN);
        x.produce(third, Halls.CASH, 1, 2, 1);
        Halls.finish(x, third);
        check.due("consent: given to one, kept for another", x.stage(third), 3);
    }
}
