/** Short ways to bring a hall where a test needs it. */
final class Halls {
    static final int CHECKING = 4;
    static final int PLAIN = 5;
    static final int CASH = 0;
    static final int DEBT = 1;
    static final int LOCK = 2;
    static final int ASK = 0;
    static final int REPLY = 1;
    static final int NOTARISE = 2;
    static final int VERDICT = 3;
    static final int FINALITY = 4;

    private Halls() {
    }

    static int code(int kind, int sender, int receiver, int t, int content) {
        return kind + 8 * sender + 64 * receiver + 512 * t + 16384 * content;
    }

    static int draft(NotaryHall hall, int node, int notary) {
        return hall.begin(node, notary, 0, 1000);
    }

    static void deliverAll(NotaryHall hall) {
        for (int i = 0; i < 100 && hall.message(-1) > 0; i++) {
            hall.deliver(0, false);
        }
    }

    static void finish(NotaryHall hall, int t) {
        hall.propose(t, false);
        deliverAll(hall);
    }

    /** A final transaction by the issuer with one CASH output. */
    static int issue(NotaryHall hall, int issuer, int owner, int amount, int notary) {
        int t = draft(hall, issuer, notary);
        hall.produce(t, CASH, issuer, owner, amount);
        finish(hall, t);
        return t;
    }

    /** A final transaction by the debtor with one DEBT output. */
    static int lend(NotaryHall hall, int debtor, int creditor, int amount, int notary) {
        int t = draft(hall, debtor, notary);
        hall.produce(t, DEBT, debtor, creditor, amount);
        finish(hall, t);
        return t;
    }
}
