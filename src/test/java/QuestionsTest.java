/** Promises 13 to 21: what the questions answer, NEEDS and the tree among them. */
public final class QuestionsTest {
    private static final Check check = new Check();

    public static void main(String[] args) {
        stage();
        nothingThere();
        needsOfCash();
        needsOfDebt();
        needsOfLetDown();
        signatures();
        verdictAndSpender();
        standing();
        vault();
        vaultForgetsKnownInputs();
        balance();
        fetched();
        treeLeaves();
        treeHeights();
        check.end();
    }

    private static void stage() {
        NotaryHall x = new NotaryHall();
        int t = Halls.draft(x, 0, Halls.CHECKING);
        check.due("stage: DRAFT", x.stage(t), 0);
        check.due("stage(-1)", x.stage(-1), -1);
        check.due("stage(1)", x.stage(1), -1);
        x.produce(t, Halls.CASH, 1, 0, 5);
        x.propose(t, false);
        check.due("stage: SIGNING", x.stage(t), 1);
        x.deliver(0, false);
        x.deliver(0, false);
        check.due("stage: NOTARISING", x.stage(t), 2);
        Halls.deliverAll(x);
        check.due("stage: FINAL", x.stage(t), 3);
    }

    private static void nothingThere() {
        NotaryHall x = new NotaryHall();
        int t = Halls.draft(x, 0, Halls.CHECKING);
        x.produce(t, Halls.CASH, 0, 0, 5);
        int[] none = {-1, 1, 20, Integer.MIN_VALUE, Integer.MAX_VALUE};
        for (int n : none) {
            check.due("signatures(" + n + ")", x.signatures(n, true), -1);
            check.due("signatures(" + n + ", false)", x.signatures(n, false), -1);
            check.due("verdict(" + n + ")", x.verdict(n), -1);
            check.due("spender(" + n + ", 0)", x.spender(n, 0), -1);
            check.due("spender(t, " + n + ")", x.spender(t, n), -1);
            check.due("standing(0, " + n + ")", x.standing(0, n), -1);
            check.due("tree(" + n + ", 0, 0)", x.tree(n, 0, 0), 0);
        }
        int[] noNode = {-1, 4, 5, Integer.MIN_VALUE, Integer.MAX_VALUE};
        for (int n : noNode) {
            check.due("standing(" + n + ", t)", x.standing(n, t), -1);
            check.due("vault(" + n + ", -1)", x.vault(n, -1), -1);
            check.due("vault(" + n + ", 0)", x.vault(n, 0), -1);
            check.due("balance(" + n + ", 0)", x.balance(n, 0), -1);
            check.due("balance(0, " + n + ")", x.balance(0, n), -1);
            check.due("fetched(" + n + ")", x.fetched(n), -1);
        }
    }

    private static void needsOfCash() {
        NotaryHall x = new NotaryHall();
        int u = Halls.draft(x, 0, Halls.CHECKING);
        x.produce(u, Halls.CASH, 0, 1, 10);
        x.produce(u, Halls.CASH, 0, 2, 20);
        x.produce(u, Halls.CASH, 0, 3, 30);
        Halls.finish(x, u);
        int t = Halls.draft(x, 3, Halls.CHECKING);
        check.due("needs: the initiator", x.signatures(t, true), 8);
        x.produce(t, Halls.LOCK, 0, 0, 3);
        check.due("needs: a LOCK needs nobody", x.signatures(t, true), 8);
        x.consume(t, u, 1);
        check.due("needs: the owner, and the issuer of what is lost", x.signatures(t, true), 8 + 4 + 1);
        x.produce(t, Halls.CASH, 0, 1, 19);
        check.due("needs: the totals differ by one", x.signatures(t, true), 8 + 4 + 1);
        x.produce(t, Halls.CASH, 0, 2, 1);
        check.due("needs: the totals are the same", x.signatures(t, true), 8 + 4);
        x.produce(t, Halls.CASH, 1, 1, 1);
        check.due("needs: another issuer", x.signatures(t, true), 8 + 4 + 2);
        int v = Halls.draft(x, 0, Halls.CHECKING);
        x.consume(v, u, 0);
        x.produce(v, Halls.CASH, 2, 1, 10);
        check.due("needs: the same total of another issuer", x.signatures(v, true), 1 + 2 + 4);
    }

    private static void needsOfDebt() {
        NotaryHall x = new NotaryHall();
        int t = Halls.draft(x, 0, Halls.CHECKING);
        x.produce(t, Halls.DEBT, 2, 1, 10);
        check.due("needs: the debtor of a new debt", x.signatures(t, true), 1 + 4);
        Halls.finish(x, t);
        check.due("needs: final", x.stage(t), 3);
        int u = Halls.draft(x, 1, Halls.CHECKING);
        x.consume(u, t, 0);
        check.due("needs: the creditor gives it up", x.signatures(u, true), 2);
        x.produce(u, Halls.DEBT, 2, 3, 10);
        check.due("needs: another creditor is another pair", x.signatures(u, true), 2 + 4);
        int same = Halls.draft(x, 0, Halls.CHECKING);
        int unknown = x.consume(same, t, 0);
        check.due("needs: the initiator knows it", unknown, 0);
        x.produce(same, Halls.DEBT, 2, 1, 4);
        x.produce(same, Halls.DEBT, 2, 1, 6);
        check.due("needs: the same debt", x.signatures(same, true), 1);
        x.produce(same, Halls.DEBT, 2, 1, 1);
        check.due("needs: one more", x.signatures(same, true), 1 + 4);
        int turned = Halls.draft(x, 0, Halls.CHECKING);
        x.consume(turned, t, 0);
        x.produce(turned, Halls.DEBT, 1, 2, 10);
        check.due("needs: the debt turned round needs its new debtor", x.signatures(turned, true), 1 + 2);
    }

    private static void needsOfLetDown() {
        NotaryHall x = new NotaryHall();
        int d = Halls.lend(x, 0, 3, 100, Halls.CHECKING);
        int e = Halls.lend(x, 1, 3, 50, Halls.CHECKING);
        int cash = Halls.issue(x, 0, 3, 40, Halls.CHECKING);
        int t = Halls.draft(x, 0, Halls.CHECKING);
        x.consume(t, d, 0);
        check.due("let down: nothing paid", x.signatures(t, true), 1 + 8);
        x.produce(t, Halls.CASH, 0, 3, 99);
        check.due("let down: one too little", x.signatures(t, true), 1 + 8);
        x.produce(t, Halls.CASH, 0, 3, 1);
        check.due("let down: paid in full", x.signatures(t, true), 1);
        x.produce(t, Halls.CASH, 0, 2, 500);
        check.due("let down: another's cash does not count", x.signatures(t, true), 1);
        int any = Halls.draft(x, 0, Halls.CHECKING);
        x.consume(any, d, 0);
        x.produce(any, Halls.CASH, 2, 3, 100);
        check.due("let down: cash of any issuer counts", x.signatures(any, true), 1 + 4);
        int less = Halls.draft(x, 0, Halls.CHECKING);
        x.consume(less, d, 0);
        x.consume(less, cash, 0);
        x.produce(less, Halls.CASH, 0, 3, 139);
        check.due("let down: cash inputs are taken off", x.signatures(less, true), 1 + 8);
        int both = Halls.draft(x, 3, Halls.CHECKING);
        x.consume(both, d, 0);
        x.consume(both, e, 0);
        Halls.finish(x, both);
        check.due("let down: the creditor gives up two", x.stage(both), 3);
        letDownByTwo();
        letDownIsNotMadeUp();
    }

    /** Node 2 starts a transaction in which 3's debts from 0 and 1 shrink together. */
    private static void letDownByTwo() {
        NotaryHall x = new NotaryHall();
        int u = Halls.draft(x, 2, Halls.CHECKING);
        x.produce(u, Halls.DEBT, 0, 3, 100);
        x.produce(u, Halls.DEBT, 1, 3, 50);
        Halls.finish(x, u);
        int t = Halls.draft(x, 2, Halls.CHECKING);
        x.consume(t, u, 0);
        x.consume(t, u, 1);
        x.produce(t, Halls.CASH, 2, 3, 149);
        check.due("let down by two: 149 of 150", x.signatures(t, true), 4 + 8);
        x.produce(t, Halls.CASH, 2, 3, 1);
        check.due("let down by two: 150 of 150", x.signatures(t, true), 4);
    }

    private static void letDownIsNotMadeUp() {
        NotaryHall x = new NotaryHall();
        int u = Halls.draft(x, 2, Halls.CHECKING);
        x.produce(u, Halls.DEBT, 0, 3, 100);
        Halls.finish(x, u);
        int t = Halls.draft(x, 2, Halls.CHECKING);
        x.consume(t, u, 0);
        x.produce(t, Halls.DEBT, 1, 3, 100);
        check.due("let down: another debtor does not make up for it", x.signatures(t, true), 4 + 2 + 8);
        int grown = Halls.draft(x, 2, Halls.CHECKING);
        x.consume(grown, u, 0);
        x.produce(grown, Halls.DEBT, 0, 3, 200);
        check.due("let down: not by a debt that grew", x.signatures(grown, true), 4 + 1);
        int losing = Halls.draft(x, 2, Halls.CHECKING);
        int coin = Halls.issue(x, 2, 3, 10, Halls.CHECKING);
        x.consume(losing, u, 0);
        x.produce(losing, Halls.DEBT, 0, 3, 100);
        x.consume(losing, coin, 0);
        check.due("let down: not by cash alone, but 3 owns the input", x.signatures(losing, true), 4 + 8);
        int noDebt = Halls.draft(x, 2, Halls.CHECKING);
        x.produce(noDebt, Halls.CASH, 2, 2, 1);
        check.due("let down: nobody without debts", x.signatures(noDebt, true), 4);
    }

    private static void signatures() {
        NotaryHall x = new NotaryHall();
        int t = Halls.draft(x, 1, Halls.CHECKING);
        x.produce(t, Halls.CASH, 3, 1, 5);
        check.due("signatures: none yet", x.signatures(t, false), 0);
        check.due("signatures: needed", x.signatures(t, true), 2 + 8);
        x.propose(t, false);
        check.due("signatures: the initiator's", x.signatures(t, false), 2);
        Halls.deliverAll(x);
        check.due("signatures: all", x.signatures(t, false), 2 + 8);
        int dropped = Halls.draft(x, 1, Halls.CHECKING);
        x.drop(dropped);
        check.due("signatures: dropped", x.signatures(dropped, false), 0);
        check.due("signatures: needed, dropped", x.signatures(dropped, true), 2);
    }

    private static void verdictAndSpender() {
        NotaryHall x = new NotaryHall();
        int u = Halls.draft(x, 0, Halls.CHECKING);
        x.produce(u, Halls.CASH, 0, 0, 5);
        x.produce(u, Halls.CASH, 0, 0, 6);
        check.due("verdict: none", x.verdict(u), 0);
        check.due("spender: of a draft's output", x.spender(u, 0), -1);
        Halls.finish(x, u);
        check.due("verdict: COMMITTED", x.verdict(u), 1);
        int t = Halls.draft(x, 0, Halls.CHECKING);
        x.consume(t, u, 1);
        check.due("spender: an input of a draft is not used up", x.spender(u, 1), -1);
        x.propose(t, false);
        check.due("spender: nor while NOTARISING", x.spender(u, 1), -1);
        Halls.deliverAll(x);
        check.due("spender: used up", x.spender(u, 1), t);
        check.due("spender: the other is not", x.spender(u, 0), -1);
        check.due("spender: no such state", x.spender(u, 2), -1);
        int full = Halls.draft(x, 0, Halls.CHECKING);
        for (int o = 0; o < 4; o++) {
            x.produce(full, Halls.LOCK, 0, 0, 1);
        }
        check.due("spender: the last state", x.spender(full, 3), -1);
        check.due("spender: no fifth state", x.spender(full, 4), -1);
        check.due("spender: no fifth state to bind", x.bind(full, 0, 4), -1);
    }

    private static void standing() {
        NotaryHall x = new NotaryHall();
        int a = Halls.issue(x, 0, 0, 5, Halls.CHECKING);
        check.due("standing: recorded", x.standing(0, a), 2);
        check.due("standing: not known", x.standing(1, a), 0);
        int b = Halls.draft(x, 0, Halls.CHECKING);
        x.pay(b, 0, 1, 5);
        check.due("standing: a draft is not known", x.standing(0, b), 0);
        Halls.finish(x, b);
        check.due("standing: only known", x.standing(1, a), 1);
        check.due("standing: recorded by both", x.standing(1, b), 2);
    }

    private static void vault() {
        NotaryHall x = new NotaryHall();
        int t = Halls.draft(x, 0, Halls.CHECKING);
        x.produce(t, Halls.DEBT, 0, 1, 10);
        x.produce(t, Halls.LOCK, 0, 0, 10);
        x.produce(t, Halls.CASH, 0, 1, 10);
        x.produce(t, Halls.CASH, 0, 0, 10);
        check.due("vault: drafts are not in it", x.vault(0, -1), 0);
        Halls.finish(x, t);
        check.due("vault: 0 owes and owns", x.vault(0, -1), 2);
        check.due("vault: the debt", x.vault(0, 0), 4 * t);
        check.due("vault: the cash", x.vault(0, 1), 4 * t + 3);
        check.due("vault: no place 2", x.vault(0, 2), -1);
        check.due("vault: place -2", x.vault(0, -2), -1);
        check.due("vault: 1 is owed and owns", x.vault(1, -1), 2);
        check.due("vault: the debt", x.vault(1, 0), 4 * t);
        check.due("vault: the cash", x.vault(1, 1), 4 * t + 2);
        check.due("vault: not concerned", x.vault(2, -1), 0);
        check.due("vault: no place 0", x.vault(2, 0), -1);
    }

    private static void vaultForgetsKnownInputs() {
        NotaryHall x = new NotaryHall();
        int spendingLater = Halls.draft(x, 1, Halls.CHECKING);
        int u = Halls.issue(x, 0, 1, 10, Halls.CHECKING);
        x.consume(spendingLater, u, 0);
        x.produce(spendingLater, Halls.CASH, 0, 1, 10);
        check.due("vault: an input of a draft stays", x.vault(1, -1), 1);
        x.propose(spendingLater, false);
        x.deliver(0, false);
        check.due("vault: used up, and still there", x.vault(1, 0), 4 * u);
        x.deliver(0, false);
        check.due("vault: the new one alone", x.vault(1, -1), 1);
        check.due("vault: of the lower number", x.vault(1, 0), 4 * spendingLater);

        NotaryHall y = new NotaryHall();
        int d = Halls.lend(y, 0, 1, 10, Halls.CHECKING);
        int gone = Halls.draft(y, 1, Halls.CHECKING);
        y.consume(gone, d, 0);
        y.produce(gone, Halls.CASH, 1, 2, 1);
        Halls.finish(y, gone);
        check.due("vault: 0 has not heard of it", y.vault(0, -1), 1);
        int next = Halls.draft(y, 2, Halls.CHECKING);
        y.consume(next, gone, 0);
        y.produce(next, Halls.CASH, 1, 0, 1);
        Halls.finish(y, next);
        check.due("vault: 0 has fetched it", y.standing(0, gone), 1);
        check.due("vault: the debt is gone, the cash is there", y.vault(0, -1), 1);
        check.due("vault: the cash", y.vault(0, 0), 4 * next);
    }

    private static void balance() {
        NotaryHall x = new NotaryHall();
        Halls.issue(x, 0, 1, 1000, Halls.CHECKING);
        Halls.issue(x, 0, 1, 999, Halls.PLAIN);
        Halls.issue(x, 2, 1, 7, Halls.CHECKING);
        Halls.lend(x, 0, 1, 500, Halls.CHECKING);
        check.due("balance: of both notaries, without debts", x.balance(1, 0), 1999);
        check.due("balance: of another issuer", x.balance(1, 2), 7);
        check.due("balance: none", x.balance(1, 1), 0);
        check.due("balance: not the issuer's", x.balance(0, 0), 0);
        int t = Halls.draft(x, 1, Halls.CHECKING);
        x.pay(t, 0, 3, 1);
        check.due("balance: a draft takes nothing", x.balance(1, 0), 1999);
        Halls.finish(x, t);
        check.due("balance: the rest", x.balance(1, 0), 1998);
        check.due("balance: the payment", x.balance(3, 0), 1);
    }

    private static void fetched() {
        NotaryHall x = new NotaryHall();
        int first = Halls.issue(x, 0, 0, 100, Halls.CHECKING);
        for (int i = 0; i < 10; i++) {
            int t = Halls.draft(x, 0, Halls.CHECKING);
            x.pay(t, 0, 0, 100);
            Halls.finish(x, t);
        }
        check.due("fetched: what one began is not fetched", x.fetched(0), 0);
        int last = Halls.draft(x, 0, Halls.CHECKING);
        x.pay(last, 0, 1, 60);
        Halls.finish(x, last);
        check.due("fetched: eleven deep", x.fetched(1), 11);
        check.due("fetched: the first", x.standing(1, first), 1);
        int more = Halls.draft(x, 0, Halls.CHECKING);
        x.pay(more, 0, 1, 40);
        Halls.finish(x, more);
        check.due("fetched: what is known is not counted again", x.fetched(1), 11);
        check.due("fetched: nobody else", x.fetched(2), 0);
        fetchedFromTwoSources();
    }

    private static void fetchedFromTwoSources() {
        NotaryHall x = new NotaryHall();
        int a = Halls.issue(x, 0, 0, 10, Halls.CHECKING);
        int b = Halls.issue(x, 0, 0, 20, Halls.CHECKING);
        int t = Halls.draft(x, 0, Halls.CHECKING);
        x.consume(t, a, 0);
        x.consume(t, b, 0);
        x.produce(t, Halls.CASH, 0, 1, 30);
        Halls.finish(x, t);
        check.due("fetched: both sources", x.fetched(1), 2);
        check.due("fetched: the first source", x.standing(1, a), 1);
        check.due("fetched: the second source", x.standing(1, b), 1);
    }

    private static void treeLeaves() {
        NotaryHall x = new NotaryHall();
        int u = Halls.issue(x, 2, 3, 1000, Halls.PLAIN);
        int t = x.begin(3, Halls.PLAIN, 77, 1000000);
        x.consume(t, u, 0);
        x.produce(t, Halls.CASH, 2, 3, 1000);
        x.produce(t, Halls.DEBT, 1, 0, 1);
        x.produce(t, Halls.LOCK, 0, 0, 9);
        x.bind(t, 1, 2);
        int[] leaves = {5, 77, 1000000, 1 + 4 * u, 0, 0, 0, 3,
            1 + 3 * (2 + 4 * (3 + 4 * 1000)), 2 + 3 * (1 + 4 * (0 + 4 * (1 + 1024 * 3))), 3 + 3 * 16 * 9, 0,
            8 + 2, 0, 0, t};
        for (int i = 0; i < 16; i++) {
            check.due("tree: leaf " + i, x.tree(t, 0, i), leaves[i]);
        }
        check.due("tree: leaf -1", x.tree(t, 0, -1), 0);
        check.due("tree: leaf 16", x.tree(t, 0, 16), 0);
    }

    private static void treeHeights() {
        NotaryHall x = new NotaryHall();
        int t = x.begin(3, Halls.CHECKING, 123456, 999999);
        for (int i = 0; i < 4; i++) {
            x.produce(t, Halls.CASH, 3, i, 1000 - i);
        }
        for (int h = 1; h <= 4; h++) {
            for (int i = 0; i < 16 >> h; i++) {
                int m = 31 * x.tree(t, h - 1, 2 * i) + 17 * x.tree(t, h - 1, 2 * i + 1) + 7;
                check.due("tree(t, " + h + ", " + i + ")", x.tree(t, h, i), m ^ (m >>> 13));
            }
            check.due("tree(t, " + h + ", past the end)", x.tree(t, h, 16 >> h), 0);
            check.due("tree(t, " + h + ", -1)", x.tree(t, h, -1), 0);
        }
        check.due("tree: height 5", x.tree(t, 5, 0), 0);
        check.due("tree: height -1", x.tree(t, -1, 0), 0);
        check.due("tree: height 32", x.tree(t, 32, 0), 0);
        int before = x.tree(t, 4, 0);
        x.bind(t, 0, 1);
        check.due("tree: as it is now", x.tree(t, 4, 0) != before, true);
    }
}
