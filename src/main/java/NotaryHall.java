import java.util.Arrays;

/** Four nodes and two notaries that share transactions by messages, without a common book. */
public final class NotaryHall {
    public static final int BAD = -1;
    public static final int NOT_DRAFT = -2;
    public static final int UNKNOWN = -3;
    public static final int OTHER_NOTARY = -4;
    public static final int TWICE = -5;
    public static final int ROOM = -6;
    public static final int SHORT = -7;
    public static final int INVALID = -8;

    /** What a question answers about something that is not there. */
    private static final int NONE = -1;

    private static final int NODES = 4;
    private static final int CHECKING_NOTARY = 4;
    private static final int PLAIN_NOTARY = 5;

    private static final int MOST_TRANSACTIONS = 20;
    private static final int MOST_STATES = 4;
    private static final int LAST_TIME = 1000000;
    private static final int MOST_AMOUNT = 1000;
    private static final int LONGEST_TICK = 1000;

    /** Three ASK, REPLY and FINALITY, one NOTARISE and VERDICT: answers never change, and copies do not wait. */
    private static final int MOST_MESSAGES = 11 * MOST_TRANSACTIONS;

    private static final int CASH = 0;
    private static final int DEBT = 1;
    private static final int LOCK = 2;
    private static final int UNBOUND = -1;

    private static final int DRAFT = 0;
    private static final int SIGNING = 1;
    private static final int NOTARISING = 2;
    private static final int FINAL = 3;
    private static final int REFUSED = 4;
    private static final int STAGE_LATE = 5;
    private static final int STAGE_FAULTY = 6;
    private static final int STAGE_CONFLICT = 7;
    private static final int VOID = 8;
    private static final int DROPPED = 9;

    private static final int ASK = 0;
    private static final int REPLY = 1;
    private static final int NOTARISE = 2;
    private static final int VERDICT = 3;
    private static final int FINALITY = 4;

    private static final int NO = 0;
    private static final int YES = 1;

    private static final int NO_VERDICT = 0;
    private static final int COMMITTED = 1;
    private static final int LATE = 2;
    private static final int FAULTY = 3;
    private static final int CONFLICT = 4;

    private static final int WAITS = 0;
    private static final int COPY = 1;
    private static final int TAKEN = 2;
    private static final int REJECTED = 3;

    private static final int LEAVES = 16;
    private static final int TREE_HEIGHT = 4;

    private final Transaction[] transactions;
    private int transactionCount;
    private final Node[] nodes;
    private final Mailbox mailbox;
    /** By state number: the transaction that has used it up. */
    private final int[] spenders;
    /** Rows that calls fill anew, made once to keep calls from making any. */
    private final int[] coins;
    private final int[] treeRow;
    private int clock;

    public NotaryHall() {
        transactions = new Transaction[MOST_TRANSACTIONS];
        nodes = new Node[NODES];
        for (int node = 0; node < NODES; node++) {
            nodes[node] = new Node();
        }
        mailbox = new Mailbox();
        spenders = new int[MOST_TRANSACTIONS * MOST_STATES];
        Arrays.fill(spenders, NONE);
        coins = new int[MOST_TRANSACTIONS * MOST_STATES];
        treeRow = new int[LEAVES];
    }

    // ---- building transactions

    public int begin(int node, int notary, int from, int until) {
        if (!isNode(node) || !isNotary(notary) || from < 0 || from >= until || until > LAST_TIME) {
            return BAD;
        }
        if (transactionCount >= MOST_TRANSACTIONS) {
            return ROOM;
        }
        int t = transactionCount;
        transactions[t] = new Transaction(t, node, notary, from, until);
        transactionCount++;
        return t;
    }

    public int consume(int t, int u, int o) {
        Transaction transaction = find(t);
        Transaction source = find(u);
        State state = findState(u, o);
        if (transaction == null || source == null || state == null) {
            return BAD;
        }
        if (transaction.stage != DRAFT) {
            return NOT_DRAFT;
        }
        if (!has(nodes[transaction.initiator].known, u)) {
            return UNKNOWN;
        }
        if (source.notary != transaction.notary) {
            return OTHER_NOTARY;
        }
        if (transaction.inputs.holds(state.number)) {
            return TWICE;
        }
        if (!transaction.inputs.hasRoomFor(1)) {
            return ROOM;
        }
        return transaction.addInput(state, source);
    }

    public int produce(int t, int kind, int a, int b, int amount) {
        Transaction transaction = find(t);
        if (transaction == null || !isContent(kind, a, b) || !isAmount(amount)) {
            return BAD;
        }
        if (transaction.stage != DRAFT) {
            return NOT_DRAFT;
        }
        if (!transaction.outputs.hasRoomFor(1)) {
            return ROOM;
        }
        return transaction.addOutput(kind, a, b, amount);
    }

    public int bind(int t, int o, int p) {
        Transaction transaction = find(t);
        State state = findState(t, o);
        if (transaction == null || state == null || p == o || (p != UNBOUND && findState(t, p) == null)) {
            return BAD;
        }
        if (transaction.stage != DRAFT) {
            return NOT_DRAFT;
        }
        state.boundTo = p;
        return 0;
    }

    public int pay(int t, int issuer, int to, int amount) {
        Transaction payment = find(t);
        if (payment == null || !isNode(issuer) || !isNode(to) || !isAmount(amount)) {
            return BAD;
        }
        if (payment.stage != DRAFT) {
            return NOT_DRAFT;
        }
        int taken = 0;
        int total = 0;
        for (int number = 0; number < stateNumbersEnd() && total < amount; number++) {
            State state = stateNumbered(number);
            if (state != null && isCoin(state, issuer, payment)) {
                coins[taken] = number;
                taken++;
                total += state.amount;
            }
        }
        if (total < amount) {
            return SHORT;
        }
        if (!payment.inputs.hasRoomFor(taken) || !payment.outputs.hasRoomFor(total > amount ? 2 : 1)) {
            return ROOM;
        }
        takeCoins(payment, taken);
        payment.addOutput(CASH, issuer, to, amount);
        if (total > amount) {
            payment.addOutput(CASH, issuer, payment.initiator, total - amount);
        }
        return taken;
    }

    public boolean drop(int t) {
        Transaction transaction = find(t);
        if (transaction == null || transaction.stage != DRAFT) {
            return false;
        }
        transaction.stage = DROPPED;
        return true;
    }

    public int propose(int t, boolean haste) {
        Transaction transaction = find(t);
        if (transaction == null) {
            return BAD;
        }
        if (transaction.stage != DRAFT) {
            return NOT_DRAFT;
        }
        if (!haste && !transaction.isValid()) {
            return INVALID;
        }
        transaction.seal(haste);
        if (haste || transaction.needsNobodyElse()) {
            transaction.stage = NOTARISING;
            return sendNotarise(transaction);
        }
        transaction.stage = SIGNING;
        return sendToOthers(ASK, transaction, transaction.needed);
    }

    // ---- messages, the clock and consent

    public int deliver(int k, boolean fails) {
        if (!mailbox.holdsPlace(k)) {
            return NONE;
        }
        int answer = receive(mailbox.codes[k], fails);
        if (!fails && answer != WAITS) {
            mailbox.removeAt(k);
        }
        return answer;
    }

    public int message(int k) {
        if (k == -1) {
            return mailbox.count;
        }
        return mailbox.holdsPlace(k) ? mailbox.codes[k] : NONE;
    }

    public int tick(int n) {
        if (n >= 0 && n <= LONGEST_TICK) {
            clock += n;
        }
        return clock;
    }

    public boolean consent(int node, int other, boolean on) {
        if (!isNode(node) || !isNode(other) || node == other) {
            return false;
        }
        if (on) {
            nodes[node].consents |= bit(other);
        } else {
            nodes[node].consents &= ~bit(other);
        }
        return true;
    }

    // ---- questions

    public int stage(int t) {
        Transaction transaction = find(t);
        return transaction == null ? NONE : transaction.stage;
    }

    public int signatures(int t, boolean needed) {
        Transaction transaction = find(t);
        if (transaction == null) {
            return NONE;
        }
        return needed ? transaction.needs() : transaction.signed;
    }

    public int verdict(int t) {
        Transaction transaction = find(t);
        return transaction == null ? NONE : transaction.verdict;
    }

    public int spender(int u, int o) {
        State state = findState(u, o);
        return state == null ? NONE : spenders[state.number];
    }

    public int standing(int node, int t) {
        if (!isNode(node) || find(t) == null) {
            return NONE;
        }
        if (has(nodes[node].recorded, t)) {
            return 2;
        }
        return has(nodes[node].known, t) ? 1 : 0;
    }

    public int vault(int node, int k) {
        if (!isNode(node) || k < -1) {
            return NONE;
        }
        int place = 0;
        for (int number = 0; number < stateNumbersEnd(); number++) {
            State state = stateNumbered(number);
            if (state != null && isInVault(state, node)) {
                if (place == k) {
                    return number;
                }
                place++;
            }
        }
        return k == -1 ? place : NONE;
    }

    public int balance(int node, int issuer) {
        if (!isNode(node) || !isNode(issuer)) {
            return NONE;
        }
        int total = 0;
        for (int number = 0; number < stateNumbersEnd(); number++) {
            State state = stateNumbered(number);
            if (state != null && state.isCashIssuedBy(issuer) && isInVault(state, node)) {
                total += state.amount;
            }
        }
        return total;
    }

    public int fetched(int node) {
        return isNode(node) ? nodes[node].fetchedCount : NONE;
    }

    public int tree(int t, int h, int i) {
        Transaction transaction = find(t);
        if (transaction == null || h < 0 || h > TREE_HEIGHT || i < 0 || i >= LEAVES >> h) {
            return 0;
        }
        for (int leaf = 0; leaf < LEAVES; leaf++) {
            treeRow[leaf] = transaction.leaf(leaf);
        }
        for (int height = 1; height <= h; height++) {
            for (int place = 0; place < LEAVES >> height; place++) {
                treeRow[place] = mix(treeRow[2 * place], treeRow[2 * place + 1]);
            }
        }
        return treeRow[i];
    }

    // ---- what a receiver does

    private int receive(int code, boolean fails) {
        Transaction transaction = find(Mailbox.transactionOf(code));
        int receiver = Mailbox.receiverOf(code);
        int content = Mailbox.contentOf(code);
        if (transaction == null) {
            return NONE;
        }
        switch (Mailbox.kindOf(code)) {
            case ASK:
                return receiveAsk(transaction, receiver, fails);
            case REPLY:
                return receiveReply(transaction, Mailbox.senderOf(code), content, fails);
            case NOTARISE:
                return receiveNotarise(transaction);
            case VERDICT:
                return receiveVerdict(transaction, content, fails);
            default:
                return receiveFinality(transaction, receiver, fails);
        }
    }

    private int receiveAsk(Transaction transaction, int receiver, boolean fails) {
        if (!isNode(receiver)) {
            return NONE;
        }
        Node node = nodes[receiver];
        transaction.decide(receiver, has(node.consents, transaction.initiator));
        boolean agrees = has(transaction.agreed, receiver);
        if (agrees && !fails) {
            node.fetch(transaction.ancestors);
        }
        send(REPLY, transaction, receiver, transaction.initiator, agrees ? YES : NO);
        return TAKEN;
    }

    private int receiveReply(Transaction transaction, int sender, int content, boolean fails) {
        if (transaction.stage != SIGNING || has(transaction.signed, sender)) {
            return COPY;
        }
        if (content == NO) {
            if (!fails) {
                transaction.stage = REFUSED;
            }
            return TAKEN;
        }
        int signed = transaction.signed | bit(sender);
        boolean complete = (transaction.needed & ~signed) == 0;
        if (complete) {
            sendNotarise(transaction);
        }
        if (!fails) {
            transaction.signed = signed;
            transaction.stage = complete ? NOTARISING : SIGNING;
        }
        return TAKEN;
    }

    /** A verdict and what it uses up are kept for good, so failing changes nothing here. */
    private int receiveNotarise(Transaction transaction) {
        if (transaction.verdict == NO_VERDICT) {
            transaction.verdict = judge(transaction);
            if (transaction.verdict == COMMITTED) {
                useUpInputs(transaction);
            }
        }
        send(VERDICT, transaction, transaction.notary, transaction.initiator, transaction.verdict);
        return TAKEN;
    }

    private int receiveVerdict(Transaction transaction, int content, boolean fails) {
        if (transaction.stage == SIGNING) {
            return WAITS;
        }
        if (transaction.stage != NOTARISING) {
            return COPY;
        }
        if (content == COMMITTED) {
            sendToOthers(FINALITY, transaction, transaction.needed | transaction.concerned());
        }
        if (!fails) {
            settle(transaction, content);
        }
        return TAKEN;
    }

    private int receiveFinality(Transaction transaction, int receiver, boolean fails) {
        if (!isNode(receiver)) {
            return NONE;
        }
        Node node = nodes[receiver];
        if (has(node.recorded, transaction.number)) {
            return COPY;
        }
        if (!transaction.sound) {
            return REJECTED;
        }
        if (!fails) {
            node.fetch(transaction.ancestors);
            node.enter(transaction.number);
        }
        return TAKEN;
    }

    private int judge(Transaction transaction) {
        if (clock < transaction.from || clock >= transaction.until) {
            return LATE;
        }
        if (transaction.notary == CHECKING_NOTARY && !transaction.sound) {
            return FAULTY;
        }
        return isAnyInputUsedUp(transaction) ? CONFLICT : COMMITTED;
    }

    private boolean isAnyInputUsedUp(Transaction transaction) {
        StateList inputs = transaction.inputs;
        for (int i = 0; i < inputs.count; i++) {
            if (spenders[inputs.states[i].number] != NONE) {
                return true;
            }
        }
        return false;
    }

    private void useUpInputs(Transaction transaction) {
        StateList inputs = transaction.inputs;
        for (int i = 0; i < inputs.count; i++) {
            spenders[inputs.states[i].number] = transaction.number;
        }
    }

    private void settle(Transaction transaction, int verdictGiven) {
        switch (verdictGiven) {
            case COMMITTED:
                if (transaction.sound) {
                    transaction.stage = FINAL;
                    nodes[transaction.initiator].enter(transaction.number);
                } else {
                    transaction.stage = VOID;
                }
                break;
            case LATE:
                transaction.stage = STAGE_LATE;
                break;
            case FAULTY:
                transaction.stage = STAGE_FAULTY;
                break;
            default:
                transaction.stage = STAGE_CONFLICT;
                break;
        }
    }

    // ---- sending; each answers how many messages were sent

    private int send(int kind, Transaction transaction, int sender, int receiver, int content) {
        return mailbox.post(Mailbox.code(kind, sender, receiver, transaction.number, content)) ? 1 : 0;
    }

    private int sendNotarise(Transaction transaction) {
        return send(NOTARISE, transaction, transaction.initiator, transaction.notary, 0);
    }

    private int sendToOthers(int kind, Transaction transaction, int receivers) {
        int sent = 0;
        for (int node = 0; node < NODES; node++) {
            if (has(receivers, node) && node != transaction.initiator) {
                sent += send(kind, transaction, transaction.initiator, node, 0);
            }
        }
        return sent;
    }

    // ---- vaults and coins

    private boolean isInVault(State state, int node) {
        return has(nodes[node].recorded, state.source())
                && state.concerns(node)
                && !isKnownInput(state, node);
    }

    private boolean isKnownInput(State state, int node) {
        for (int t = 0; t < transactionCount; t++) {
            if (has(nodes[node].known, t) && transactions[t].inputs.holds(state.number)) {
                return true;
            }
        }
        return false;
    }

    private boolean isHeld(State state, int node) {
        for (int t = 0; t < transactionCount; t++) {
            Transaction transaction = transactions[t];
            if (transaction.initiator == node && transaction.isOpen() && transaction.inputs.holds(state.number)) {
                return true;
            }
        }
        return false;
    }

    private boolean isCoin(State state, int issuer, Transaction payment) {
        return state.isCashIssuedBy(issuer)
                && !state.isBound()
                && transactions[state.source()].notary == payment.notary
                && isInVault(state, payment.initiator)
                && !isHeld(state, payment.initiator);
    }

    private void takeCoins(Transaction payment, int taken) {
        for (int i = 0; i < taken; i++) {
            State coin = stateNumbered(coins[i]);
            if (coin != null) {
                payment.addInput(coin, transactions[coin.source()]);
            }
        }
    }

    // ---- finding and checking

    private Transaction find(int t) {
        return t >= 0 && t < transactionCount ? transactions[t] : null;
    }

    private State findState(int u, int o) {
        Transaction source = find(u);
        if (source == null || o < 0 || o >= source.outputs.count) {
            return null;
        }
        return source.outputs.states[o];
    }

    private State stateNumbered(int number) {
        return findState(number / MOST_STATES, number % MOST_STATES);
    }

    private int stateNumbersEnd() {
        return transactionCount * MOST_STATES;
    }

    private static boolean isNode(int node) {
        return node >= 0 && node < NODES;
    }

    private static boolean isNotary(int notary) {
        return notary == CHECKING_NOTARY || notary == PLAIN_NOTARY;
    }

    private static boolean isAmount(int amount) {
        return amount >= 1 && amount <= MOST_AMOUNT;
    }

    private static boolean isContent(int kind, int a, int b) {
        switch (kind) {
            case CASH:
                return isNode(a) && isNode(b);
            case DEBT:
                return isNode(a) && isNode(b) && a != b;
            case LOCK:
                return a == 0 && b == 0;
            default:
                return false;
        }
    }

    private static int bit(int place) {
        return 1 << place;
    }

    private static boolean has(int set, int place) {
        return (set & bit(place)) != 0;
    }

    private static int mix(int x, int y) {
        int m = 31 * x + 17 * y + 7;
        return m ^ (m >>> 13);
    }

    /** An output of a transaction. */
    private static final class State {
        final int number;
        final int kind;
        final int a;
        final int b;
        final int amount;
        /** A place among the outputs of the same transaction, or UNBOUND. */
        int boundTo;

        State(int number, int kind, int a, int b, int amount) {
            this.number = number;
            this.kind = kind;
            this.a = a;
            this.b = b;
            this.amount = amount;
            this.boundTo = UNBOUND;
        }

        int source() {
            return number / MOST_STATES;
        }

        boolean isBound() {
            return boundTo != UNBOUND;
        }

        int boundNumber() {
            return source() * MOST_STATES + boundTo;
        }

        boolean isCashIssuedBy(int node) {
            return kind == CASH && a == node;
        }

        boolean isCashOwnedBy(int node) {
            return kind == CASH && b == node;
        }

        boolean isDebtOf(int debtor, int creditor) {
            return kind == DEBT && a == debtor && b == creditor;
        }

        boolean concerns(int node) {
            return isCashOwnedBy(node) || (kind == DEBT && (a == node || b == node));
        }

        int leafValue() {
            return 1 + kind + 3 * (a + 4 * (b + 4 * (amount + 1024 * (boundTo + 1))));
        }
    }

    /** The inputs or the outputs of a transaction. */
    private static final class StateList {
        final State[] states;
        int count;

        StateList() {
            states = new State[MOST_STATES];
        }

        boolean hasRoomFor(int more) {
            return more <= MOST_STATES - count;
        }

        int add(State state) {
            if (count >= MOST_STATES) {
                return ROOM;
            }
            states[count] = state;
            count++;
            return count - 1;
        }

        boolean holds(int number) {
            for (int i = 0; i < count; i++) {
                if (states[i].number == number) {
                    return true;
                }
            }
            return false;
        }

        boolean holdsCashOwnedBy(int node) {
            for (int i = 0; i < count; i++) {
                if (states[i].isCashOwnedBy(node)) {
                    return true;
                }
            }
            return false;
        }

        int cashIssuedBy(int node) {
            int total = 0;
            for (int i = 0; i < count; i++) {
                if (states[i].isCashIssuedBy(node)) {
                    total += states[i].amount;
                }
            }
            return total;
        }

        int cashOwnedBy(int node) {
            int total = 0;
            for (int i = 0; i < count; i++) {
                if (states[i].isCashOwnedBy(node)) {
                    total += states[i].amount;
                }
            }
            return total;
        }

        int debtOf(int debtor, int creditor) {
            int total = 0;
            for (int i = 0; i < count; i++) {
                if (states[i].isDebtOf(debtor, creditor)) {
                    total += states[i].amount;
                }
            }
            return total;
        }
    }

    /** Sets of nodes and of transactions are ints with one bit for each. */
    private static final class Transaction {
        final int number;
        final int initiator;
        final int notary;
        final int from;
        final int until;
        final StateList inputs;
        final StateList outputs;
        /** The transactions that a node fetches for this one. */
        int ancestors;
        int stage;
        /** NEEDS and SOUND as they are from the proposal on. */
        int needed;
        boolean sound;
        int signed;
        /** The nodes that have decided, and those of them that said yes. */
        int decided;
        int agreed;
        int verdict;

        Transaction(int number, int initiator, int notary, int from, int until) {
            this.number = number;
            this.initiator = initiator;
            this.notary = notary;
            this.from = from;
            this.until = until;
            this.inputs = new StateList();
            this.outputs = new StateList();
            this.stage = DRAFT;
            this.verdict = NO_VERDICT;
        }

        /** Only a known source can be consumed, and what is known is no draft: its own ancestors stay as they are. */
        int addInput(State state, Transaction source) {
            ancestors |= bit(source.number) | source.ancestors;
            return inputs.add(state);
        }

        int addOutput(int kind, int a, int b, int amount) {
            return outputs.add(new State(number * MOST_STATES + outputs.count, kind, a, b, amount));
        }

        void decide(int node, boolean agrees) {
            if (has(decided, node)) {
                return;
            }
            decided |= bit(node);
            if (agrees) {
                agreed |= bit(node);
            }
        }

        boolean isOpen() {
            return stage == DRAFT || stage == SIGNING || stage == NOTARISING;
        }

        /** A proposed transaction and its inputs never change, so what is told of them here holds for good. */
        void seal(boolean haste) {
            signed = bit(initiator);
            needed = needs();
            sound = isValid() && (!haste || needsNobodyElse());
        }

        boolean needsNobodyElse() {
            return needed == bit(initiator);
        }

        boolean isValid() {
            if (inputs.count == 0 && outputs.count == 0) {
                return false;
            }
            for (int i = 0; i < inputs.count; i++) {
                if (!allowsInput(inputs.states[i])) {
                    return false;
                }
            }
            return true;
        }

        private boolean allowsInput(State input) {
            if (input.isBound() && !inputs.holds(input.boundNumber())) {
                return false;
            }
            return input.kind != LOCK || input.amount <= from;
        }

        int needs() {
            int needed = bit(initiator);
            for (int node = 0; node < NODES; node++) {
                if (mustSign(node)) {
                    needed |= bit(node);
                }
            }
            return needed;
        }

        private boolean mustSign(int node) {
            return inputs.holdsCashOwnedBy(node)
                    || inputs.cashIssuedBy(node) != outputs.cashIssuedBy(node)
                    || owesMore(node)
                    || isLetDown(node);
        }

        private boolean owesMore(int debtor) {
            for (int creditor = 0; creditor < NODES; creditor++) {
                if (outputs.debtOf(debtor, creditor) > inputs.debtOf(debtor, creditor)) {
                    return true;
                }
            }
            return false;
        }

        private boolean isLetDown(int creditor) {
            int lost = 0;
            for (int debtor = 0; debtor < NODES; debtor++) {
                int less = inputs.debtOf(debtor, creditor) - outputs.debtOf(debtor, creditor);
                // A debt that grew does not make up for one that shrank.
                lost += Math.max(less, 0);
            }
            return lost > 0 && lost > outputs.cashOwnedBy(creditor) - inputs.cashOwnedBy(creditor);
        }

        /** The nodes that an output concerns. */
        int concerned() {
            int set = 0;
            for (int node = 0; node < NODES; node++) {
                for (int o = 0; o < outputs.count; o++) {
                    if (outputs.states[o].concerns(node)) {
                        set |= bit(node);
                    }
                }
            }
            return set;
        }

        int leaf(int place) {
            switch (place) {
                case 0:
                    return notary;
                case 1:
                    return from;
                case 2:
                    return until;
                case 3: case 4: case 5: case 6:
                    return inputLeaf(place - 3);
                case 7:
                    return initiator;
                case 8: case 9: case 10: case 11:
                    return outputLeaf(place - 8);
                case 12:
                    return needs();
                case 15:
                    return number;
                default:
                    return 0;
            }
        }

        private int inputLeaf(int i) {
            return i >= 0 && i < inputs.count ? 1 + inputs.states[i].number : 0;
        }

        private int outputLeaf(int o) {
            return o >= 0 && o < outputs.count ? outputs.states[o].leafValue() : 0;
        }
    }

    /** What one node has seen, and whose transactions it consents to. */
    private static final class Node {
        int known;
        int recorded;
        int fetchedCount;
        int consents;

        Node() {
            consents = bit(NODES) - 1;
        }

        void fetch(int ancestors) {
            fetchedCount += Integer.bitCount(ancestors & ~known);
            known |= ancestors;
        }

        void enter(int t) {
            known |= bit(t);
            recorded |= bit(t);
        }
    }

    /** The waiting messages in the order of sending, each as the number that tells everything of it. */
    private static final class Mailbox {
        final int[] codes;
        int count;

        Mailbox() {
            codes = new int[MOST_MESSAGES];
        }

        static int code(int kind, int sender, int receiver, int t, int content) {
            return kind + 8 * sender + 64 * receiver + 512 * t + 16384 * content;
        }

        static int kindOf(int code) {
            return code & 7;
        }

        static int senderOf(int code) {
            return code >> 3 & 7;
        }

        static int receiverOf(int code) {
            return code >> 6 & 7;
        }

        static int transactionOf(int code) {
            return code >> 9 & 31;
        }

        static int contentOf(int code) {
            return code >> 14;
        }

        boolean holdsPlace(int k) {
            return k >= 0 && k < count;
        }

        /** Whether it was sent: a copy of a waiting message is not. */
        boolean post(int code) {
            if (count >= MOST_MESSAGES || isWaiting(code)) {
                return false;
            }
            codes[count] = code;
            count++;
            return true;
        }

        private boolean isWaiting(int code) {
            for (int k = 0; k < count; k++) {
                if (codes[k] == code) {
                    return true;
                }
            }
            return false;
        }

        void removeAt(int k) {
            if (!holdsPlace(k)) {
                return;
            }
            for (int next = k + 1; next < count; next++) {
                codes[next - 1] = codes[next];
            }
            count--;
        }
    }
}
