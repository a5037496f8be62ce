import java.util.ArrayList;
import java.util.List;

/** Makes calls that are told as text, such as "begin(0, 4, 0, 1000)", on one hall of its own. */
final class Caller {
    /** Nothing is promised about a hall after so many calls, so no test may lean on more. */
    static final int MOST_CALLS = 512;

    private final NotaryHall hall = new NotaryHall();
    private int made;

    /** The answer; true is 1 and false 0. */
    int call(String told) {
        made++;
        if (made > MOST_CALLS) {
            throw new IllegalStateException("a test made more than " + MOST_CALLS + " calls on one hall");
        }
        String[] words = told.split("[(), ]+");
        int[] n = new int[words.length - 1];
        for (int i = 0; i < n.length; i++) {
            n[i] = number(words[i + 1]);
        }
        return call(words[0] + "/" + n.length, n);
    }

    private static int number(String word) {
        return word.equals("true") ? 1 : word.equals("false") ? 0 : Integer.parseInt(word);
    }

    private int call(String nameAndCount, int[] n) {
        switch (nameAndCount) {
            case "begin/4": return hall.begin(n[0], n[1], n[2], n[3]);
            case "consume/3": return hall.consume(n[0], n[1], n[2]);
            case "produce/5": return hall.produce(n[0], n[1], n[2], n[3], n[4]);
            case "bind/3": return hall.bind(n[0], n[1], n[2]);
            case "pay/4": return hall.pay(n[0], n[1], n[2], n[3]);
            case "drop/1": return hall.drop(n[0]) ? 1 : 0;
            case "propose/2": return hall.propose(n[0], n[1] == 1);
            case "deliver/2": return hall.deliver(n[0], n[1] == 1);
            case "message/1": return hall.message(n[0]);
            case "tick/1": return hall.tick(n[0]);
            case "consent/3": return hall.consent(n[0], n[1], n[2] == 1) ? 1 : 0;
            case "stage/1": return hall.stage(n[0]);
            case "signatures/2": return hall.signatures(n[0], n[1] == 1);
            case "verdict/1": return hall.verdict(n[0]);
            case "spender/2": return hall.spender(n[0], n[1]);
            case "standing/2": return hall.standing(n[0], n[1]);
            case "vault/2": return hall.vault(n[0], n[1]);
            case "balance/2": return hall.balance(n[0], n[1]);
            case "fetched/1": return hall.fetched(n[0]);
            case "tree/3": return hall.tree(n[0], n[1], n[2]);
            default: throw new IllegalArgumentException("no such call: " + nameAndCount);
        }
    }

    /** What the questions answer now. The root of a tree stands for all its leaves, to save calls. */
    List<String> picture() {
        List<String> seen = new ArrayList<>();
        for (int t = 0; t < 20 && see(seen, "stage(" + t + ")") != -1; t++) {
            see(seen, "signatures(" + t + ", true)");
            see(seen, "signatures(" + t + ", false)");
            see(seen, "verdict(" + t + ")");
            see(seen, "tree(" + t + ", 4, 0)");
            for (int i = 0; i < 4; i++) {
                see(seen, "spender(" + t + ", " + i + ")");
                see(seen, "standing(" + i + ", " + t + ")");
            }
        }
        for (int node = 0; node < 4; node++) {
            see(seen, "fetched(" + node + ")");
            for (int issuer = 0; issuer < 4; issuer++) {
                see(seen, "balance(" + node + ", " + issuer + ")");
            }
            int states = see(seen, "vault(" + node + ", -1)");
            for (int k = 0; k < states; k++) {
                see(seen, "vault(" + node + ", " + k + ")");
            }
        }
        int messages = see(seen, "message(-1)");
        for (int k = 0; k < messages; k++) {
            see(seen, "message(" + k + ")");
        }
        see(seen, "tick(0)");
        return seen;
    }

    private int see(List<String> seen, String told) {
        int answer = call(told);
        seen.add(told + " answered " + answer);
        return answer;
    }

    /** Brings out what no question tells: drafts are proposed, every node asks every other, all is delivered. */
    void goOn() {
        for (int t = 0; t < 20; t++) {
            int stage = call("stage(" + t + ")");
            if (stage == 0 && call("propose(" + t + ", false)") < 0) {
                call("propose(" + t + ", true)");
            } else if (stage == -1) {
                break;
            }
        }
        for (int node = 0; node < 4; node++) {
            askAllOthers(node);
        }
        deliverAll();
    }

    private void askAllOthers(int node) {
        int t = call("begin(" + node + ", 5, 0, 1000000)");
        if (t < 0) {
            return;
        }
        for (int other = 0; other < 4; other++) {
            if (other != node) {
                call("produce(" + t + ", 0, " + other + ", " + node + ", 1)");
            }
        }
        call("propose(" + t + ", false)");
    }

    /** The deliveries that were made, for a run that is to be told again. */
    List<String> deliverAll() {
        List<String> made = new ArrayList<>();
        int waits = 0;
        for (int i = 0; i < MOST_CALLS; i++) {
            String told = "deliver(" + waits + ", false)";
            int answer = call(told);
            if (answer == -1) {
                break;
            }
            made.add(told);
            waits += answer == 0 ? 1 : 0;
        }
        return made;
    }
}
