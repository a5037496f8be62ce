/** Promises 1 to 8: a new object, and what builds and proposes transactions. */
public final class BuildingTest {
    private static final Check check = new Check();

    public static void main(String[] args) {
        newObject();
        begin();
        consume();
        consumeRefusalsInOrder();
        produce();
        bind();
        pay();
        payTakesOnlyCoins();
        payRefusalsInOrder();
        drop();
        proposeAlone();
        proposeToSigners();
        proposeRefusals();
        check.end();
    }

    private static void newObject() {
        NotaryHall x = new NotaryHall();
        check.due("new: message(-1)", x.message(-1), 0);
        check.due("new: message(0)", x.message(0), -1);
        check.due("new: stage(0)", x.stage(0), -1);
        check.due("new: tick(0)", x.tick(0), 0);
        for (int node = 0; node < 4; node++) {
            check.due("new: vault(node, -1)", x.vault(node, -1), 0);
            check.due("new: fetched(node)", x.fetched(node), 0);
        }
        for (int node = 0; node < 4; node++) {
            int t = Halls.draft(x, (node + 1) % 4, Halls.CHECKING);
            check.due("new: standing(node, t)", x.standing(node, t), 0);
        }
        everyNodeConsents();
    }

    private static void everyNodeConsents() {
        for (int initiator = 0; initiator < 4; initiator++) {
            NotaryHall x = new NotaryHall();
            int t = Halls.draft(x, initiator, Halls.PLAIN);
            int outputs = 0;
            for (int issuer = 0; issuer < 4; issuer++) {
                if (issuer != initiator) {
                    check.due("new: produce", x.produce(t, Halls.CASH, issuer, initiator, 5), outputs++);
                }
            }
            check.due("new: propose", x.propose(t, false), 3);
            Halls.deliverAll(x);
            check.due("new: every node signs for " + initiator, x.signatures(t, false), 15);
            check.due("new: stage", x.stage(t), 3);
        }
    }

    private static void begin() {
        NotaryHall x = new NotaryHall();
        check.due("begin(-1, 4, 0, 1)", x.begin(-1, 4, 0, 1), -1);
        check.due("begin(4, 4, 0, 1)", x.begin(4, 4, 0, 1), -1);
        check.due("begin(0, 3, 0, 1)", x.begin(0, 3, 0, 1), -1);
        check.due("begin(0, 6, 0, 1)", x.begin(0, 6, 0, 1), -1);
        check.due("begin(0, 4, -1, 1)", x.begin(0, 4, -1, 1), -1);
        check.due("begin(0, 4, 1, 1)", x.begin(0, 4, 1, 1), -1);
        check.due("begin(0, 4, 2, 1)", x.begin(0, 4, 2, 1), -1);
        check.due("begin(0, 4, 0, 1000001)", x.begin(0, 4, 0, 1000001), -1);
        check.due("begin(0, 4, 1000000, 1000000)", x.begin(0, 4, 1000000, 1000000), -1);
        check.due("begin: refused ones begin nothing", x.stage(0), -1);
        check.due("begin(3, 5, 0, 1)", x.begin(3, 5, 0, 1), 0);
        check.due("begin(0, 4, 999999, 1000000)", x.begin(0, 4, 999999, 1000000), 1);
        check.due("begin: stage", x.stage(1), 0);
        check.due("begin: no outputs", x.spender(1, 0), -1);
        check.due("begin: leaf 7", x.tree(0, 0, 7), 3);
        check.due("begin: leaf 0", x.tree(0, 0, 0), 5);
        for (int t = 2; t < 20; t++) {
            check.due("begin: number", x.begin(t % 4, 4, t, t + 1), t);
        }
        check.due("begin: a 21st", x.begin(0, 4, 0, 1), -6);
        check.due("begin: a bad 21st", x.begin(4, 4, 0, 1), -1);
        check.due("begin: no 21st", x.stage(20), -1);
        check.due("begin: the 20th", x.stage(19), 0);
    }

    private static void consume() {
        NotaryHall x = new NotaryHall();
        int later = Halls.draft(x, 0, Halls.CHECKING);
        int u = Halls.draft(x, 0, Halls.CHECKING);
        x.produce(u, Halls.CASH, 0, 0, 1);
        x.produce(u, Halls.CASH, 0, 1, 2);
        x.produce(u, Halls.DEBT, 0, 2, 3);
        x.produce(u, Halls.LOCK, 0, 0, 4);
        Halls.finish(x, u);
        int u2 = Halls.issue(x, 0, 3, 9, Halls.CHECKING);
        check.due("consume: a LOCK", x.consume(later, u, 3), 0);
        check.due("consume: a state of a later number", x.consume(later, u2, 0), 1);
        check.due("consume: another's cash", x.consume(later, u, 1), 2);
        check.due("consume: leaf 3", x.tree(later, 0, 3), 1 + 4 * u + 3);
        check.due("consume: leaf 4", x.tree(later, 0, 4), 1 + 4 * u2);
        check.due("consume: TWICE", x.consume(later, u, 1), -5);
        check.due("consume: the fourth", x.consume(later, u, 2), 3);
        check.due("consume: TWICE before ROOM", x.consume(later, u, 2), -5);
        check.due("consume: ROOM", x.consume(later, u, 0), -6);
        check.due("consume: ROOM changes nothing", x.tree(later, 0, 6), 1 + 4 * u + 2);
        int other = Halls.draft(x, 0, Halls.CHECKING);
        check.due("consume: held states may be inputs elsewhere", x.consume(other, u, 3), 0);
        int byReceiver = Halls.draft(x, 3, Halls.CHECKING);
        check.due("consume: what came by FINALITY", x.consume(byReceiver, u2, 0), 0);
    }

    private static void consumeRefusalsInOrder() {
        NotaryHall x = new NotaryHall();
        int u = Halls.issue(x, 0, 1, 10, Halls.CHECKING);
        int t = Halls.draft(x, 0, Halls.PLAIN);
        check.due("consume(-1, u, 0)", x.consume(-1, u, 0), -1);
        check.due("consume(9, u, 0)", x.consume(9, u, 0), -1);
        check.due("consume(t, -1, 0)", x.consume(t, -1, 0), -1);
        check.due("consume(t, 9, 0)", x.consume(t, 9, 0), -1);
        check.due("consume(t, u, 1)", x.consume(t, u, 1), -1);
        check.due("consume(t, u, -1)", x.consume(t, u, -1), -1);
        check.due("consume: OTHER_NOTARY", x.consume(t, u, 0), -4);
        int stranger = Halls.draft(x, 2, Halls.PLAIN);
        check.due("consume: UNKNOWN before OTHER_NOTARY", x.consume(stranger, u, 0), -3);
        x.produce(t, Halls.CASH, 0, 0, 1);
        check.due("consume: its own output", x.consume(t, t, 0), -3);
        x.drop(stranger);
        check.due("consume: NOT_DRAFT before UNKNOWN", x.consume(stranger, u, 0), -2);
        check.due("consume: BAD before NOT_DRAFT", x.consume(stranger, u, 3), -1);
        check.due("consume: no input came", x.tree(t, 0, 3), 0);
    }

    private static void produce() {
        NotaryHall x = new NotaryHall();
        int t = Halls.draft(x, 2, Halls.CHECKING);
        check.due("produce(7, ..)", x.produce(7, 0, 0, 0, 1), -1);
        check.due("produce(-1, ..)", x.produce(-1, 0, 0, 0, 1), -1);
        check.due("produce: kind -1", x.produce(t, -1, 0, 0, 1), -1);
        check.due("produce: kind 3", x.produce(t, 3, 0, 0, 1), -1);
        int[][] wrong = {{0, -1, 0}, {0, 4, 0}, {0, 0, -1}, {0, 0, 4}, {1, 1, 1}, {1, -1, 2}, {1, 4, 2},
            {1, 2, -1}, {1, 2, 4}, {2, 1, 0}, {2, 0, 1}, {2, 1, 1}};
        for (int[] w : wrong) {
            check.due("produce: kind " + w[0] + " of " + w[1] + ", " + w[2], x.produce(t, w[0], w[1], w[2], 1), -1);
        }
        check.due("produce: amount 0", x.produce(t, 0, 0, 0, 0), -1);
        check.due("produce: amount 1001", x.produce(t, 0, 0, 0, 1001), -1);
        check.due("produce: nothing came", x.tree(t, 0, 8), 0);
        check.due("produce: CASH", x.produce(t, 0, 3, 3, 1000), 0);
        check.due("produce: DEBT", x.produce(t, 1, 3, 0, 1), 1);
        check.due("produce: LOCK", x.produce(t, 2, 0, 0, 1000), 2);
        check.due("produce: leaf", x.tree(t, 0, 9), 1 + 1 + 3 * (3 + 4 * (0 + 4 * 1)));
        check.due("produce: the fourth", x.produce(t, 0, 3, 0, 7), 3);
        check.due("produce: ROOM", x.produce(t, 0, 3, 0, 7), -6);
        x.drop(t);
        check.due("produce: NOT_DRAFT before ROOM", x.produce(t, 0, 3, 0, 7), -2);
        check.due("produce: BAD before NOT_DRAFT", x.produce(t, 0, 3, 0, 0), -1);
    }

    private static void bind() {
        NotaryHall x = new NotaryHall();
        int t = Halls.draft(x, 0, Halls.CHECKING);
        x.produce(t, 0, 0, 0, 10);
        x.produce(t, 0, 0, 0, 20);
        x.produce(t, 2, 0, 0, 30);
        int plain = x.tree(t, 0, 8);
        int place = 3 * 16 * 1024;
        check.due("bind(t, 0, 2)", x.bind(t, 0, 2), 0);
        check.due("bind: e is 3", x.tree(t, 0, 8), plain + 3 * place);
        check.due("bind(t, 0, 1)", x.bind(t, 0, 1), 0);
        check.due("bind: e is 2", x.tree(t, 0, 8), plain + 2 * place);
        check.due("bind(t, 1, 0)", x.bind(t, 1, 0), 0);
        check.due("bind(t, 0, -1)", x.bind(t, 0, -1), 0);
        check.due("bind: not bound", x.tree(t, 0, 8), plain);
        check.due("bind(-1, 0, 1)", x.bind(-1, 0, 1), -1);
        check.due("bind(1, 0, 1)", x.bind(1, 0, 1), -1);
        check.due("bind(t, 3, 0)", x.bind(t, 3, 0), -1);
        check.due("bind(t, -1, 0)", x.bind(t, -1, 0), -1);
        check.due("bind(t, -1, -1)", x.bind(t, -1, -1), -1);
        check.due("bind(t, 0, 3)", x.bind(t, 0, 3), -1);
        check.due("bind(t, 0, -2)", x.bind(t, 0, -2), -1);
        check.due("bind(t, 1, 1)", x.bind(t, 1, 1), -1);
        check.due("bind: refused ones bind nothing", x.tree(t, 0, 8), plain);
        x.propose(t, false);
        check.due("bind: NOT_DRAFT", x.bind(t, 0, 1), -2);
        check.due("bind: BAD before NOT_DRAFT", x.bind(t, 0, 0), -1);
    }

    private static void pay() {
        NotaryHall x = new NotaryHall();
        int a = Halls.issue(x, 0, 1, 100, Halls.CHECKING);
        int b = Halls.issue(x, 0, 1, 50, Halls.CHECKING);
        int c = Halls.issue(x, 0, 1, 25, Halls.CHECKING);
        int exact = Halls.draft(x, 1, Halls.CHECKING);
        check.due("pay: exactly the first coin", x.pay(exact, 0, 2, 100), 1);
        check.due("pay: its input", x.tree(exact, 0, 3), 1 + 4 * a);
        check.due("pay: its output", x.tree(exact, 0, 8), 1 + 3 * (0 + 4 * (2 + 4 * 100)));
        check.due("pay: no rest", x.tree(exact, 0, 9), 0);
        check.due("pay: a held coin is passed over", x.pay(exact, 0, 3, 60), 2);
        check.due("pay: second input", x.tree(exact, 0, 4), 1 + 4 * b);
        check.due("pay: third input", x.tree(exact, 0, 5), 1 + 4 * c);
        check.due("pay: second payment", x.tree(exact, 0, 9), 1 + 3 * (0 + 4 * (3 + 4 * 60)));
        check.due("pay: the rest", x.tree(exact, 0, 10), 1 + 3 * (0 + 4 * (1 + 4 * 15)));
        check.due("pay: nothing is left", x.pay(exact, 0, 3, 1), -7);
        x.drop(exact);
        int again = Halls.draft(x, 1, Halls.CHECKING);
        check.due("pay: dropped drafts hold nothing", x.pay(again, 0, 1, 101), 2);
        Halls.finish(x, again);
        check.due("pay: to oneself", x.balance(1, 0), 175);
        check.due("pay: the vault", x.vault(1, -1), 3);
        int held = Halls.draft(x, 1, Halls.CHECKING);
        x.pay(held, 0, 2, 175);
        x.propose(held, false);
        int next = Halls.draft(x, 1, Halls.CHECKING);
        check.due("pay: NOTARISING holds", x.pay(next, 0, 2, 1), -7);
    }

    private static void payTakesOnlyCoins() {
        NotaryHall x = new NotaryHall();
        int mixed = Halls.draft(x, 0, Halls.CHECKING);
        x.produce(mixed, Halls.CASH, 0, 1, 10);
        x.produce(mixed, Halls.LOCK, 0, 0, 1);
        x.produce(mixed, Halls.DEBT, 0, 1, 500);
        x.produce(mixed, Halls.CASH, 0, 2, 500);
        x.bind(mixed, 0, 1);
        Halls.finish(x, mixed);
        Halls.issue(x, 0, 1, 20, Halls.PLAIN);
        Halls.issue(x, 2, 1, 30, Halls.CHECKING);
        int good = Halls.issue(x, 0, 1, 40, Halls.CHECKING);
        check.due("coins: the balance counts all", x.balance(1, 0), 70);
        int t = Halls.draft(x, 1, Halls.CHECKING);
        check.due("coins: SHORT by one", x.pay(t, 0, 3, 41), -7);
        check.due("coins: SHORT changes nothing", x.tree(t, 0, 8), 0);
        check.due("coins: the only one", x.pay(t, 0, 3, 40), 1);
        check.due("coins: its number", x.tree(t, 0, 3), 1 + 4 * good);
        int byOther = Halls.draft(x, 0, Halls.CHECKING);
        x.consume(byOther, mixed, 3);
        int owner = Halls.draft(x, 2, Halls.CHECKING);
        check.due("coins: held by another is not held", x.pay(owner, 0, 3, 500), 1);
        int signing = Halls.draft(x, 1, Halls.PLAIN);
        x.pay(signing, 0, 3, 20);
        x.produce(signing, Halls.CASH, 3, 1, 1);
        x.propose(signing, false);
        check.due("coins: SIGNING", x.stage(signing), 1);
        int next = Halls.draft(x, 1, Halls.PLAIN);
        check.due("coins: SIGNING holds", x.pay(next, 0, 3, 20), -7);
        x.consent(3, 1, false);
        Halls.deliverAll(x);
        check.due("coins: REFUSED", x.stage(signing), 4);
        check.due("coins: REFUSED frees", x.pay(next, 0, 3, 20), 1);
    }

    private static void payRefusalsInOrder() {
        NotaryHall x = new NotaryHall();
        for (int i = 0; i < 5; i++) {
            Halls.issue(x, 0, 1, 10, Halls.CHECKING);
        }
        int t = Halls.draft(x, 1, Halls.CHECKING);
        check.due("pay(-1, ..)", x.pay(-1, 0, 2, 1), -1);
        check.due("pay(9, ..)", x.pay(9, 0, 2, 1), -1);
        check.due("pay: issuer -1", x.pay(t, -1, 2, 1), -1);
        check.due("pay: issuer 4", x.pay(t, 4, 2, 1), -1);
        check.due("pay: to -1", x.pay(t, 0, -1, 1), -1);
        check.due("pay: to 4", x.pay(t, 0, 4, 1), -1);
        check.due("pay: amount 0", x.pay(t, 0, 2, 0), -1);
        check.due("pay: amount 1001", x.pay(t, 0, 2, 1001), -1);
        check.due("pay: ROOM for five coins", x.pay(t, 0, 2, 41), -6);
        check.due("pay: ROOM changes nothing", x.tree(t, 0, 3), 0);
        check.due("pay: SHORT", x.pay(t, 0, 2, 51), -7);
        for (int i = 0; i < 3; i++) {
            x.produce(t, Halls.LOCK, 0, 0, 1);
        }
        check.due("pay: ROOM for the rest", x.pay(t, 0, 2, 39), -6);
        check.due("pay: no ROOM needed for a rest", x.pay(t, 0, 2, 40), 4);
        check.due("pay: SHORT before ROOM", x.pay(t, 0, 2, 11), -7);
        check.due("pay: ROOM", x.pay(t, 0, 2, 10), -6);
        x.propose(t, false);
        check.due("pay: NOT_DRAFT before SHORT", x.pay(t, 0, 2, 11), -2);
        check.due("pay: BAD before NOT_DRAFT", x.pay(t, 0, 2, 0), -1);
    }

    private static void drop() {
        NotaryHall x = new NotaryHall();
        check.due("drop(0) of none", x.drop(0), false);
        check.due("drop(-1)", x.drop(-1), false);
        int t = Halls.draft(x, 0, Halls.CHECKING);
        check.due("drop(t)", x.drop(t), true);
        check.due("drop: stage", x.stage(t), 9);
        check.due("drop: again", x.drop(t), false);
        int u = Halls.draft(x, 0, Halls.CHECKING);
        x.propose(u, true);
        check.due("drop: NOTARISING", x.drop(u), false);
        check.due("drop: changes nothing", x.stage(u), 2);
    }

    private static void proposeAlone() {
        NotaryHall x = new NotaryHall();
        int t = Halls.draft(x, 3, Halls.PLAIN);
        x.produce(t, Halls.CASH, 3, 0, 5);
        check.due("propose: alone", x.propose(t, false), 1);
        check.due("propose: NOTARISING", x.stage(t), 2);
        check.due("propose: signed by the initiator", x.signatures(t, false), 8);
        check.due("propose: NOTARISE", x.message(0), Halls.code(Halls.NOTARISE, 3, 5, t, 0));
        int hasty = Halls.draft(x, 1, Halls.CHECKING);
        x.produce(hasty, Halls.CASH, 2, 1, 5);
        check.due("propose: in haste", x.propose(hasty, true), 1);
        check.due("propose: in haste, NOTARISING", x.stage(hasty), 2);
        check.due("propose: in haste, signed", x.signatures(hasty, false), 2);
        check.due("propose: in haste, NOTARISE", x.message(1), Halls.code(Halls.NOTARISE, 1, 4, hasty, 0));
        int empty = Halls.draft(x, 0, Halls.CHECKING);
        check.due("propose: an empty one is INVALID", x.propose(empty, false), -8);
        check.due("propose: it stays a draft", x.stage(empty), 0);
        check.due("propose: it is not signed", x.signatures(empty, false), 0);
        check.due("propose: no message", x.message(-1), 2);
        check.due("propose: an empty one in haste", x.propose(empty, true), 1);
    }

    private static void proposeToSigners() {
        NotaryHall x = new NotaryHall();
        int t = Halls.draft(x, 2, Halls.CHECKING);
        x.produce(t, Halls.CASH, 3, 2, 5);
        x.produce(t, Halls.CASH, 0, 2, 5);
        check.due("propose: needs", x.signatures(t, true), 13);
        check.due("propose: two asked", x.propose(t, false), 2);
        check.due("propose: SIGNING", x.stage(t), 1);
        check.due("propose: signed", x.signatures(t, false), 4);
        check.due("propose: ASK 0", x.message(0), Halls.code(Halls.ASK, 2, 0, t, 0));
        check.due("propose: ASK 3", x.message(1), Halls.code(Halls.ASK, 2, 3, t, 0));
        check.due("propose: no more", x.message(2), -1);
    }

    private static void proposeRefusals() {
        NotaryHall x = new NotaryHall();
        check.due("propose(0) of none", x.propose(0, true), -1);
        check.due("propose(-1)", x.propose(-1, false), -1);
        int t = Halls.draft(x, 0, Halls.CHECKING);
        x.drop(t);
        check.due("propose: NOT_DRAFT before INVALID", x.propose(t, false), -2);
        check.due("propose: NOT_DRAFT in haste", x.propose(t, true), -2);
        int u = Halls.draft(x, 0, Halls.CHECKING);
        x.produce(u, Halls.CASH, 0, 0, 10);
        x.produce(u, Halls.LOCK, 0, 0, 20);
        x.produce(u, Halls.CASH, 0, 0, 30);
        x.bind(u, 0, 2);
        Halls.finish(x, u);
        int bound = x.begin(0, Halls.CHECKING, 0, 9);
        x.consume(bound, u, 0);
        check.due("propose: bound input alone", x.propose(bound, false), -8);
        x.consume(bound, u, 2);
        check.due("propose: both inputs", x.propose(bound, false), 1);
        int early = x.begin(0, Halls.CHECKING, 19, 30);
        x.consume(early, u, 1);
        check.due("propose: LOCK too early", x.propose(early, false), -8);
        int due = x.begin(0, Halls.CHECKING, 20, 30);
        x.consume(due, u, 1);
        check.due("propose: LOCK just due", x.propose(due, false), 1);
    }
}
