import java.util.Random;

/** No call throws, whatever its arguments and however many came before; the same calls give the same answers. */
public final class EnduranceTest {
    private static final int[] ODD = {Integer.MIN_VALUE, -1000000, -33, -2, -1, 16, 19, 20, 21, 31, 32, 33, 80, 220,
        1000, 1001, 1000000, 1000001, Integer.MAX_VALUE - 1, Integer.MAX_VALUE};
    private static final int RUNS = 300;
    private static final int CALLS = 3000;

    private static Random random;
    private static int oddInHundred;

    public static void main(String[] args) {
        Check check = new Check();
        for (int seed = 0; seed < RUNS; seed++) {
            long first = run(seed);
            check.due("the answers of run " + seed + ", once more", run(seed), first);
        }
        check.end();
    }

    private static int number(int bound) {
        return random.nextInt(100) < oddInHundred ? ODD[random.nextInt(ODD.length)] : random.nextInt(bound);
    }

    private static long run(int seed) {
        random = new Random(seed);
        oddInHundred = seed % 30;
        NotaryHall hall = new NotaryHall();
        long answers = 0;
        for (int call = 0; call < CALLS; call++) {
            answers = 31 * answers + call(hall, random.nextInt(28));
        }
        return answers;
    }

    private static int call(NotaryHall x, int which) {
        boolean flag = random.nextInt(3) == 0;
        switch (which) {
            case 0: return x.begin(number(4), 4 + number(2), number(5), 6 + number(1000));
            case 1: return x.consume(number(20), number(20), number(4));
            case 2: return x.produce(number(20), number(3), number(4), number(4), number(1002));
            case 3: return x.bind(number(20), number(4), number(5) - 1);
            case 4: return x.pay(number(20), number(4), number(4), number(50));
            case 5: return random.nextInt(5) == 0 && x.drop(number(20)) ? 1 : 0;
            case 6: return x.propose(number(20), flag);
            case 7: return x.message(number(20) - 1);
            case 8: return random.nextInt(20) == 0 ? x.tick(number(3)) : x.tick(0);
            case 9: return x.consent(number(4), number(4), !flag) ? 1 : 0;
            case 10: return x.stage(number(20));
            case 11: return x.signatures(number(20), flag);
            case 12: return x.verdict(number(20));
            case 13: return x.spender(number(20), number(4));
            case 14: return x.standing(number(4), number(20));
            case 15: return x.vault(number(4), number(10) - 1);
            case 16: return x.balance(number(4), number(4));
            case 17: return x.fetched(number(4));
            case 18: return x.tree(number(20), number(5), number(16));
            case 19: return x.produce(number(20), 0, number(4), number(4), 1 + number(9));
            default: return x.deliver(number(Math.max(1, x.message(-1))), flag);
        }
    }
}
