import java.util.ArrayList;
import java.util.List;
import java.util.Random;
import java.util.TreeMap;

/** Many runs of 512 calls, made by fixed seeds, on the class and on the model of the document. */
public final class ModelTest {
    private static final int RUNS = 3000;
    private static final int CALLS = 512;
    /** What the runs must have met, or they say too little. */
    private static final List<String> MUST_MEET = mustMeet();

    private static int wrong;
    private static final TreeMap<String, Integer> met = new TreeMap<>();

    private final Random random;
    private final NotaryHall hall = new NotaryHall();
    private final HallModel model = new HallModel();
    /** Some runs fail often, some seldom refuse, so that long chains come about too. */
    private final int failsInHundred;
    private final int oddInHundred;
    private final boolean oneNotary;
    /** In some runs one node begins and owns the most, and so has many coins. */
    private final int richNode;
    private final List<String> calls = new ArrayList<>();

    private ModelTest(long seed) {
        random = new Random(seed);
        failsInHundred = random.nextInt(3) * 20;
        oddInHundred = 1 + random.nextInt(4) * 6;
        oneNotary = random.nextInt(3) > 0;
        richNode = random.nextInt(8);
    }

    public static void main(String[] args) {
        for (int run = 0; run < RUNS && wrong < 5; run++) {
            new ModelTest(run).run(run);
        }
        for (String answer : MUST_MEET) {
            if (!met.containsKey(answer)) {
                wrong++;
                System.out.println("no run met " + answer);
            }
        }
        System.out.println(RUNS + " runs of " + CALLS + " calls, " + met.size() + " kinds of answers, "
                + wrong + " not as due");
        if (wrong != 0) {
            System.exit(1);
        }
    }

    private static List<String> mustMeet() {
        List<String> names = new ArrayList<>(List.of("begin -1", "begin -6", "produce -1", "produce -2",
                "produce -6", "bind -1", "bind -2", "bind 0", "drop 0", "drop 1", "propose -1", "propose -2",
                "propose -8", "propose 1", "propose 2", "propose 3", "deliver -1", "deliver 0", "deliver 1",
                "deliver 2", "deliver 3", "consent 0", "consent 1", "pay -1", "pay -2", "pay -6", "pay -7",
                "pay 1", "pay 2", "pay 3", "pay 4"));
        for (int i = -6; i <= 3; i++) {
            names.add("consume " + i);
        }
        for (int i = -1; i <= 9; i++) {
            names.add("stage " + i);
        }
        for (int i = -1; i <= 4; i++) {
            names.add("verdict " + i);
        }
        for (int i = 1; i <= 15; i++) {
            names.add("needed " + i);
        }
        return names;
    }

    private void run(int run) {
        for (int call = 0; call < CALLS; call++) {
            if (random.nextInt(100) < 70) {
                act();
            } else {
                ask();
            }
            if (wrong > 0) {
                System.out.println("in run " + run + ":");
                calls.forEach(System.out::println);
                return;
            }
        }
    }

    private void same(String name, String call, long got, long want) {
        if (!name.equals("tree")) {
            met.merge(name + " " + want, 1, Integer::sum);
        }
        calls.add("  " + call + " = " + got);
        if (got != want) {
            wrong++;
            System.out.println(call + " answered " + got + ", due is " + want);
        }
    }

    private boolean odd() {
        return random.nextInt(100) < oddInHundred;
    }

    private int oneOf(int... values) {
        return values[random.nextInt(values.length)];
    }

    private int node() {
        return random.nextInt(60) == 0 ? oneOf(-1, 4, 5, 99) : random.nextInt(4);
    }

    /** A node that gets something. */
    private int owner() {
        return richNode < 4 && random.nextInt(4) > 0 ? richNode : node();
    }

    private int deal() {
        int count = model.deals.size();
        if (count == 0 || random.nextInt(40) == 0) {
            return oneOf(-1, count, 20, Integer.MAX_VALUE, Integer.MIN_VALUE);
        }
        return random.nextInt(count);
    }

    /** Mostly one that is still a draft. */
    private int draft() {
        if (!odd()) {
            List<Integer> drafts = new ArrayList<>();
            for (int t = 0; t < model.deals.size(); t++) {
                if (model.stage(t) == 0) {
                    drafts.add(t);
                }
            }
            if (!drafts.isEmpty()) {
                return drafts.get(random.nextInt(drafts.size()));
            }
        }
        return deal();
    }

    private int amount() {
        return random.nextInt(30) == 0 ? oneOf(0, -1, 1001, 1000) : oneOf(1, 2, 3, 5, 10, 10, 10, 20, 30, 700);
    }

    private void act() {
        int which = random.nextInt(100);
        if (which < 35) {
            build();
        } else if (which < 42) {
            propose();
        } else if (which < 90 && model.message(-1) > 0 || which < 44) {
            deliver();
        } else if (which < 90) {
            build();
        } else if (which < 92) {
            int t = random.nextInt(3) == 0 ? draft() : deal();
            same("drop", "drop(" + t + ")", hall.drop(t) ? 1 : 0, model.drop(t) ? 1 : 0);
        } else if (which < 96) {
            int n = random.nextInt(10) == 0 ? oneOf(-1, 1000, 1001) : random.nextInt(8);
            same("tick", "tick(" + n + ")", hall.tick(n), model.tick(n));
        } else {
            consent();
        }
    }

    private void build() {
        int which = random.nextInt(100);
        if (which < 12) {
            begin();
        } else if (which < 32) {
            consume();
        } else if (which < 60) {
            produce();
        } else if (which < 64) {
            bind();
        } else if (which < 80) {
            pay();
        } else {
            passOn();
        }
    }

    private void propose() {
        int t = draft();
        boolean haste = random.nextInt(6) == 0;
        same("propose", "propose(" + t + ", " + haste + ")", hall.propose(t, haste), model.propose(t, haste));
    }

    private void begin() {
        if (model.deals.size() * 20 > calls.size() && !odd()) {
            deliver();
            return;
        }
        int node = owner();
        int notary = oneNotary ? 4 + failsInHundred / 20 % 2 : oneOf(4, 4, 5);
        int from = odd() ? oneOf(-1, 5, 10, 20) : 0;
        int until = odd() ? oneOf(0, 5, 40, 1000001) : 1000000;
        notary = random.nextInt(60) == 0 ? oneOf(3, 6) : notary;
        from = random.nextInt(4) == 0 ? model.clock : from;
        same("begin", "begin(" + node + ", " + notary + ", " + from + ", " + until + ")",
                hall.begin(node, notary, from, until), model.begin(node, notary, from, until));
    }

    private void consume() {
        int t = draft();
        int u = deal();
        int o = random.nextInt(30) == 0 ? oneOf(-1, 4) : random.nextInt(4);
        if (!odd() && t >= 0 && t < model.deals.size()) {
            List<HallModel.State> vault = model.vaultOf(model.deals.get(t).initiator);
            if (!vault.isEmpty()) {
                HallModel.State s = vault.get(random.nextInt(vault.size()));
                u = s.t();
                o = s.o();
            }
        }
        same("consume", "consume(" + t + ", " + u + ", " + o + ")", hall.consume(t, u, o), model.consume(t, u, o));
    }

    private void produce() {
        int t = draft();
        int kind = random.nextInt(60) == 0 ? oneOf(-1, 3) : oneOf(0, 0, 0, 1, 1, 2);
        int a = kind == 2 && !odd() ? 0 : node();
        int b = kind == 2 && !odd() ? 0 : owner();
        int amount = kind == 2 ? oneOf(1, 5, 10, 20) : amount();
        // Cash that the initiator issues needs nobody else, so that more transactions become final.
        if (kind < 2 && random.nextInt(4) > 0 && t >= 0 && t < model.deals.size()) {
            a = model.deals.get(t).initiator;
        }
        produce(t, kind, a, b, amount);
    }

    private void produce(int t, int kind, int a, int b, int amount) {
        same("produce", "produce(" + t + ", " + kind + ", " + a + ", " + b + ", " + amount + ")",
                hall.produce(t, kind, a, b, amount), model.produce(t, kind, a, b, amount));
    }

    /** A draft's last input comes out again, whole, for another owner or nearly: NEEDS turns on such sums. */
    private void passOn() {
        int t = draft();
        if (t < 0 || t >= model.deals.size() || model.deals.get(t).inputs.isEmpty()) {
            consume();
            return;
        }
        HallModel.Deal d = model.deals.get(t);
        HallModel.State s = d.inputs.get(d.inputs.size() - 1);
        HallModel.Output in = model.deals.get(s.t()).outputs.get(s.o());
        int amount = in.amount + (random.nextInt(4) == 0 ? oneOf(-1, 1) : 0);
        if (in.kind == 1 && random.nextBoolean()) {
            produce(t, 0, random.nextBoolean() ? d.initiator : in.a, in.b, amount);
        } else {
            produce(t, in.kind, in.a, in.kind == 0 ? owner() : in.b, amount);
        }
    }

    private void bind() {
        int t = draft();
        int o = random.nextInt(6) - 1;
        int p = random.nextInt(6) - 1;
        same("bind", "bind(" + t + ", " + o + ", " + p + ")", hall.bind(t, o, p), model.bind(t, o, p));
    }

    private void pay() {
        int t = draft();
        int issuer = node();
        int to = node();
        int amount = amount();
        // Up to all that the initiator has, so that several coins are taken.
        if (!odd() && t >= 0 && t < model.deals.size()) {
            int all = model.balance(model.deals.get(t).initiator, issuer);
            amount = all > 0 ? Math.min(1000, 1 + random.nextInt(all)) : amount;
        }
        same("pay", "pay(" + t + ", " + issuer + ", " + to + ", " + amount + ")",
                hall.pay(t, issuer, to, amount), model.pay(t, issuer, to, amount));
    }

    private void deliver() {
        int count = model.message(-1);
        int k = count == 0 || random.nextInt(60) == 0 ? oneOf(-1, count, 1000) : random.nextInt(count);
        boolean fails = random.nextInt(100) < failsInHundred;
        same("deliver", "deliver(" + k + ", " + fails + ")", hall.deliver(k, fails), model.deliver(k, fails));
    }

    private void consent() {
        int node = node();
        int other = node();
        boolean on = random.nextInt(3) > 0;
        same("consent", "consent(" + node + ", " + other + ", " + on + ")",
                hall.consent(node, other, on) ? 1 : 0, model.consent(node, other, on) ? 1 : 0);
    }

    private void ask() {
        int t = deal();
        int node = node();
        switch (random.nextInt(11)) {
            case 0:
                same("stage", "stage(" + t + ")", hall.stage(t), model.stage(t));
                break;
            case 1:
                same("needed", "signatures(" + t + ", true)", hall.signatures(t, true), model.signatures(t, true));
                break;
            case 2:
                same("signed", "signatures(" + t + ", false)",
                        hall.signatures(t, false), model.signatures(t, false));
                break;
            case 3:
                same("verdict", "verdict(" + t + ")", hall.verdict(t), model.verdict(t));
                break;
            case 4:
                int o = random.nextInt(6) - 1;
                same("spender", "spender(" + t + ", " + o + ")", hall.spender(t, o), model.spender(t, o));
                break;
            case 5:
                same("standing", "standing(" + node + ", " + t + ")",
                        hall.standing(node, t), model.standing(node, t));
                break;
            case 6:
                int place = random.nextInt(8) - 2;
                same("vault", "vault(" + node + ", " + place + ")",
                        hall.vault(node, place), model.vault(node, place));
                break;
            case 7:
                int issuer = node();
                same("balance", "balance(" + node + ", " + issuer + ")",
                        hall.balance(node, issuer), model.balance(node, issuer));
                break;
            case 8:
                same("fetched", "fetched(" + node + ")", hall.fetched(node), model.fetched(node));
                break;
            case 9:
                int k = random.nextInt(Math.max(1, model.message(-1)) + 3) - 2;
                same("message", "message(" + k + ")", hall.message(k), model.message(k));
                break;
            default:
                int h = random.nextInt(7) - 1;
                int i = random.nextInt(h == 4 ? 2 : 18) - (h == 4 ? 0 : 1);
                int got = hall.tree(t, h, i);
                int want = model.tree(t, h, i);
                same("tree", "tree(" + t + ", " + h + ", " + i + ")", got, want);
                break;
        }
    }
}
