import java.util.ArrayList;
import java.util.HashMap;
import java.util.HashSet;
import java.util.List;
import java.util.Map;
import java.util.Set;
import java.util.TreeSet;

/**
 * The document once more, in sets and maps and as near to its words as can be, for comparison.
 * A failing receiver is told by doing all and then putting back what is not kept.
 */
final class HallModel {
    record State(int t, int o) {
        int number() {
            return 4 * t + o;
        }
    }

    record Message(int kind, int t, int sender, int receiver, int content) {
        int code() {
            return kind + 8 * sender + 64 * receiver + 512 * t + 16384 * content;
        }
    }

    static final class Output {
        int kind;
        int a;
        int b;
        int amount;
        Integer bound;

        Set<Integer> concerned() {
            return kind == 0 ? Set.of(b) : kind == 1 ? Set.of(a, b) : Set.of();
        }
    }

    static final class Deal {
        int initiator;
        int notary;
        int from;
        int until;
        String stage = "DRAFT";
        boolean haste;
        List<State> inputs = new ArrayList<>();
        List<Output> outputs = new ArrayList<>();
        Set<Integer> signatures = new TreeSet<>();
        Map<Integer, Boolean> decisions = new HashMap<>();
    }

    static final List<String> STAGES = List.of("DRAFT", "SIGNING", "NOTARISING", "FINAL", "REFUSED", "LATE",
            "FAULTY", "CONFLICT", "VOID", "DROPPED");

    final List<Deal> deals = new ArrayList<>();
    List<Message> waiting = new ArrayList<>();
    final Map<Integer, Integer> verdicts = new HashMap<>();
    final Map<State, Integer> usedUp = new HashMap<>();
    List<Set<Integer>> knows = fourSets();
    List<Set<Integer>> recorded = fourSets();
    int[] fetched = new int[4];
    final Set<List<Integer>> dissent = new HashSet<>();
    int clock;

    private static List<Set<Integer>> fourSets() {
        return List.of(new TreeSet<>(), new TreeSet<>(), new TreeSet<>(), new TreeSet<>());
    }

    private static List<Set<Integer>> copy(List<Set<Integer>> sets) {
        List<Set<Integer>> copies = fourSets();
        for (int i = 0; i < 4; i++) {
            copies.get(i).addAll(sets.get(i));
        }
        return copies;
    }

    private boolean isDeal(int t) {
        return t >= 0 && t < deals.size();
    }

    private boolean isState(int u, int o) {
        return isDeal(u) && o >= 0 && o < deals.get(u).outputs.size();
    }

    private static boolean isNode(int node) {
        return node == 0 || node == 1 || node == 2 || node == 3;
    }

    private Output output(State s) {
        return deals.get(s.t()).outputs.get(s.o());
    }

    private static int sum(Set<Integer> nodes) {
        int sum = 0;
        for (int node : nodes) {
            sum += (int) Math.pow(2, node);
        }
        return sum;
    }

    Set<Integer> needs(int t) {
        Deal d = deals.get(t);
        Set<Integer> needs = new TreeSet<>();
        needs.add(d.initiator);
        Map<Integer, Integer> issued = new HashMap<>();
        Map<List<Integer>, Integer> owed = new HashMap<>();
        Map<Integer, Integer> gained = new HashMap<>();
        for (State s : d.inputs) {
            Output in = output(s);
            if (in.kind == 0) {
                needs.add(in.b);
            }
            tally(in, -1, issued, owed, gained);
        }
        for (Output out : d.outputs) {
            tally(out, 1, issued, owed, gained);
        }
        issued.forEach((node, change) -> {
            if (change != 0) {
                needs.add(node);
            }
        });
        Map<Integer, Integer> lost = new HashMap<>();
        owed.forEach((pair, change) -> {
            if (change > 0) {
                needs.add(pair.get(0));
            } else if (change < 0) {
                lost.merge(pair.get(1), -change, Integer::sum);
            }
        });
        lost.forEach((b, sum) -> {
            if (sum > gained.getOrDefault(b, 0)) {
                needs.add(b);
            }
        });
        return needs;
    }

    private static void tally(Output s, int sign, Map<Integer, Integer> issued,
            Map<List<Integer>, Integer> owed, Map<Integer, Integer> gained) {
        if (s.kind == 0) {
            issued.merge(s.a, sign * s.amount, Integer::sum);
            gained.merge(s.b, sign * s.amount, Integer::sum);
        } else if (s.kind == 1) {
            owed.merge(List.of(s.a, s.b), sign * s.amount, Integer::sum);
        }
    }

    boolean valid(int t) {
        Deal d = deals.get(t);
        boolean valid = d.inputs.size() + d.outputs.size() >= 1;
        for (State s : d.inputs) {
            Output in = output(s);
            valid &= in.bound == null || d.inputs.contains(new State(s.t(), in.bound));
            valid &= in.kind != 2 || in.amount <= d.from;
        }
        return valid;
    }

    boolean sound(int t) {
        return valid(t) && (!deals.get(t).haste || needs(t).equals(Set.of(deals.get(t).initiator)));
    }

    private void before(int t, Set<Integer> found) {
        for (State s : deals.get(t).inputs) {
            found.add(s.t());
            before(s.t(), found);
        }
    }

    private void fetch(int node, int t) {
        Set<Integer> found = new TreeSet<>();
        before(t, found);
        for (int u : found) {
            if (knows.get(node).add(u)) {
                fetched[node]++;
            }
        }
    }

    private int send(int kind, int t, int sender, int receiver, int content) {
        Message m = new Message(kind, t, sender, receiver, content);
        if (waiting.contains(m)) {
            return 0;
        }
        waiting.add(m);
        return 1;
    }

    int begin(int node, int notary, int from, int until) {
        if (!isNode(node) || (notary != 4 && notary != 5) || !(0 <= from && from < until && until <= 1000000)) {
            return -1;
        }
        if (deals.size() == 20) {
            return -6;
        }
        Deal d = new Deal();
        d.initiator = node;
        d.notary = notary;
        d.from = from;
        d.until = until;
        deals.add(d);
        return deals.size() - 1;
    }

    int consume(int t, int u, int o) {
        if (!isDeal(t) || !isState(u, o)) {
            return -1;
        }
        Deal d = deals.get(t);
        State s = new State(u, o);
        if (!d.stage.equals("DRAFT")) {
            return -2;
        } else if (!knows.get(d.initiator).contains(u)) {
            return -3;
        } else if (deals.get(u).notary != d.notary) {
            return -4;
        } else if (d.inputs.contains(s)) {
            return -5;
        } else if (d.inputs.size() == 4) {
            return -6;
        }
        d.inputs.add(s);
        return d.inputs.size() - 1;
    }

    int produce(int t, int kind, int a, int b, int amount) {
        boolean asSaid = kind == 0 && isNode(a) && isNode(b)
                || kind == 1 && isNode(a) && isNode(b) && a != b
                || kind == 2 && a == 0 && b == 0;
        if (!isDeal(t) || !asSaid || amount < 1 || amount > 1000) {
            return -1;
        }
        Deal d = deals.get(t);
        if (!d.stage.equals("DRAFT")) {
            return -2;
        } else if (d.outputs.size() == 4) {
            return -6;
        }
        add(d, kind, a, b, amount);
        return d.outputs.size() - 1;
    }

    private void add(Deal d, int kind, int a, int b, int amount) {
        Output out = new Output();
        out.kind = kind;
        out.a = a;
        out.b = b;
        out.amount = amount;
        d.outputs.add(out);
    }

    int bind(int t, int o, int p) {
        if (!isDeal(t) || !isState(t, o) || (p != -1 && !isState(t, p)) || p == o) {
            return -1;
        }
        if (!deals.get(t).stage.equals("DRAFT")) {
            return -2;
        }
        deals.get(t).outputs.get(o).bound = p == -1 ? null : p;
        return 0;
    }

    List<State> vaultOf(int node) {
        Set<State> spent = new HashSet<>();
        for (int t : knows.get(node)) {
            spent.addAll(deals.get(t).inputs);
        }
        List<State> vault = new ArrayList<>();
        for (int t : recorded.get(node)) {
            for (int o = 0; o < deals.get(t).outputs.size(); o++) {
                State s = new State(t, o);
                if (output(s).concerned().contains(node) && !spent.contains(s)) {
                    vault.add(s);
                }
            }
        }
        return vault;
    }

    int pay(int t, int issuer, int to, int amount) {
        if (!isDeal(t) || !isNode(issuer) || !isNode(to) || amount < 1 || amount > 1000) {
            return -1;
        }
        Deal d = deals.get(t);
        if (!d.stage.equals("DRAFT")) {
            return -2;
        }
        Set<State> held = new HashSet<>();
        for (Deal other : deals) {
            if (other.initiator == d.initiator && STAGES.indexOf(other.stage) <= 2) {
                held.addAll(other.inputs);
            }
        }
        List<State> coins = vaultOf(d.initiator);
        coins.removeIf(s -> output(s).kind != 0 || output(s).a != issuer || output(s).bound != null
                || held.contains(s) || deals.get(s.t()).notary != d.notary);
        int all = 0;
        for (State s : coins) {
            all += output(s).amount;
        }
        if (all < amount) {
            return -7;
        }
        int total = 0;
        List<State> taken = new ArrayList<>();
        while (total < amount) {
            State coin = coins.remove(0);
            taken.add(coin);
            total += output(coin).amount;
        }
        if (d.inputs.size() + taken.size() > 4 || d.outputs.size() + (total > amount ? 2 : 1) > 4) {
            return -6;
        }
        d.inputs.addAll(taken);
        add(d, 0, issuer, to, amount);
        if (total > amount) {
            add(d, 0, issuer, d.initiator, total - amount);
        }
        return taken.size();
    }

    boolean drop(int t) {
        if (!isDeal(t) || !deals.get(t).stage.equals("DRAFT")) {
            return false;
        }
        deals.get(t).stage = "DROPPED";
        return true;
    }

    int propose(int t, boolean haste) {
        if (!isDeal(t)) {
            return -1;
        }
        Deal d = deals.get(t);
        if (!d.stage.equals("DRAFT")) {
            return -2;
        } else if (!haste && !valid(t)) {
            return -8;
        }
        d.haste = haste;
        d.signatures.add(d.initiator);
        if (haste || needs(t).size() == 1) {
            d.stage = "NOTARISING";
            return send(2, t, d.initiator, d.notary, 0);
        }
        d.stage = "SIGNING";
        int sent = 0;
        for (int node : needs(t)) {
            sent += node == d.initiator ? 0 : send(0, t, d.initiator, node, 0);
        }
        return sent;
    }

    int deliver(int k, boolean fails) {
        if (k < 0 || k >= waiting.size()) {
            return -1;
        }
        Message m = waiting.get(k);
        Deal d = deals.get(m.t());
        String stage = d.stage;
        Set<Integer> signatures = new TreeSet<>(d.signatures);
        List<Set<Integer>> knewBefore = copy(knows);
        List<Set<Integer>> recordedBefore = copy(recorded);
        int[] fetchedBefore = fetched.clone();
        String answer = receive(m, d);
        if (fails) {
            d.stage = stage;
            d.signatures = signatures;
            knows = knewBefore;
            recorded = recordedBefore;
            fetched = fetchedBefore;
        } else if (!answer.equals("WAITS")) {
            waiting.remove(k);
        }
        return List.of("WAITS", "COPY", "TAKEN", "REJECTED").indexOf(answer);
    }

    private String receive(Message m, Deal d) {
        int t = m.t();
        switch (m.kind()) {
            case 0:
                boolean yes = d.decisions.computeIfAbsent(m.receiver(),
                        node -> !dissent.contains(List.of(node, d.initiator)));
                if (yes) {
                    fetch(m.receiver(), t);
                }
                send(1, t, m.receiver(), d.initiator, yes ? 1 : 0);
                return "TAKEN";
            case 1:
                return receiveReply(m, d);
            case 2:
                if (!verdicts.containsKey(t)) {
                    verdicts.put(t, judge(t, d));
                    if (verdicts.get(t) == 1) {
                        d.inputs.forEach(s -> usedUp.put(s, t));
                    }
                }
                send(3, t, d.notary, d.initiator, verdicts.get(t));
                return "TAKEN";
            case 3:
                return receiveVerdict(m, d);
            default:
                if (recorded.get(m.receiver()).contains(t)) {
                    return "COPY";
                } else if (!sound(t)) {
                    return "REJECTED";
                }
                fetch(m.receiver(), t);
                knows.get(m.receiver()).add(t);
                recorded.get(m.receiver()).add(t);
                return "TAKEN";
        }
    }

    private String receiveReply(Message m, Deal d) {
        if (!d.stage.equals("SIGNING") || d.signatures.contains(m.sender())) {
            return "COPY";
        }
        if (m.content() == 0) {
            d.stage = "REFUSED";
            return "TAKEN";
        }
        d.signatures.add(m.sender());
        if (d.signatures.containsAll(needs(m.t()))) {
            d.stage = "NOTARISING";
            send(2, m.t(), d.initiator, d.notary, 0);
        }
        return "TAKEN";
    }

    private int judge(int t, Deal d) {
        if (!(d.from <= clock && clock < d.until)) {
            return 2;
        } else if (d.notary == 4 && !sound(t)) {
            return 3;
        }
        for (State s : d.inputs) {
            if (usedUp.containsKey(s)) {
                return 4;
            }
        }
        return 1;
    }

    private String receiveVerdict(Message m, Deal d) {
        if (d.stage.equals("SIGNING")) {
            return "WAITS";
        } else if (!d.stage.equals("NOTARISING")) {
            return "COPY";
        }
        if (m.content() != 1) {
            d.stage = List.of("LATE", "FAULTY", "CONFLICT").get(m.content() - 2);
            return "TAKEN";
        }
        if (sound(m.t())) {
            d.stage = "FINAL";
            knows.get(d.initiator).add(m.t());
            recorded.get(d.initiator).add(m.t());
        } else {
            d.stage = "VOID";
        }
        Set<Integer> receivers = new TreeSet<>(needs(m.t()));
        d.outputs.forEach(out -> receivers.addAll(out.concerned()));
        receivers.remove(d.initiator);
        receivers.forEach(node -> send(4, m.t(), d.initiator, node, 0));
        return "TAKEN";
    }

    int message(int k) {
        return k == -1 ? waiting.size() : k < 0 || k >= waiting.size() ? -1 : waiting.get(k).code();
    }

    int tick(int n) {
        clock += n >= 0 && n <= 1000 ? n : 0;
        return clock;
    }

    boolean consent(int node, int other, boolean on) {
        if (!isNode(node) || !isNode(other) || node == other) {
            return false;
        }
        if (on) {
            dissent.remove(List.of(node, other));
        } else {
            dissent.add(List.of(node, other));
        }
        return true;
    }

    int stage(int t) {
        return isDeal(t) ? STAGES.indexOf(deals.get(t).stage) : -1;
    }

    int signatures(int t, boolean needed) {
        return !isDeal(t) ? -1 : sum(needed ? needs(t) : deals.get(t).signatures);
    }

    int verdict(int t) {
        return isDeal(t) ? verdicts.getOrDefault(t, 0) : -1;
    }

    int spender(int u, int o) {
        return usedUp.getOrDefault(new State(u, o), -1);
    }

    int standing(int node, int t) {
        if (!isNode(node) || !isDeal(t)) {
            return -1;
        }
        return recorded.get(node).contains(t) ? 2 : knows.get(node).contains(t) ? 1 : 0;
    }

    int vault(int node, int k) {
        if (!isNode(node)) {
            return -1;
        }
        List<State> vault = vaultOf(node);
        return k == -1 ? vault.size() : k < 0 || k >= vault.size() ? -1 : vault.get(k).number();
    }

    int balance(int node, int issuer) {
        if (!isNode(node) || !isNode(issuer)) {
            return -1;
        }
        int total = 0;
        for (State s : vaultOf(node)) {
            total += output(s).kind == 0 && output(s).a == issuer ? output(s).amount : 0;
        }
        return total;
    }

    int fetched(int node) {
        return isNode(node) ? fetched[node] : -1;
    }

    int tree(int t, int h, int i) {
        if (!isDeal(t) || h < 0 || h > 4 || i < 0 || i >= (int) Math.pow(2, 4 - h)) {
            return 0;
        }
        if (h > 0) {
            int m = 31 * tree(t, h - 1, 2 * i) + 17 * tree(t, h - 1, 2 * i + 1) + 7;
            return m ^ (m >>> 13);
        }
        Deal d = deals.get(t);
        int[] leaves = new int[16];
        leaves[0] = d.notary;
        leaves[1] = d.from;
        leaves[2] = d.until;
        for (int n = 0; n < d.inputs.size(); n++) {
            leaves[3 + n] = 1 + d.inputs.get(n).number();
        }
        leaves[7] = d.initiator;
        for (int n = 0; n < d.outputs.size(); n++) {
            Output s = d.outputs.get(n);
            int e = s.bound == null ? 0 : 1 + s.bound;
            leaves[8 + n] = 1 + s.kind + 3 * (s.a + 4 * (s.b + 4 * (s.amount + 1024 * e)));
        }
        leaves[12] = sum(needs(t));
        leaves[15] = t;
        return leaves[i];
    }
}
