import java.util.function.LongSupplier;

/** Runs of 512 calls by many mixtures of inputs, each answer compared with that of PlainDisk. */
final class LongRunsTest {
    private static final int RUNS = 600;
    private static final int CALLS = 512;
    private static final int[] ODD = {
        Integer.MIN_VALUE, -100000, -2, -1, 0, 1, 7, 8, 9, 12, 13, 23, 24, 64, 65, 499, 500, 501,
        1000, 1001, 99936, 99999, 100000, 1000000, 1000001, Integer.MAX_VALUE};

    private final Checks checks;
    private final int run;
    private final ShareDisk disk = new ShareDisk();
    private final PlainDisk plain = new PlainDisk();
    private final int clientRange;
    private final int sectorRange;
    private final int patienceRange;
    private final int submitShare;
    private final boolean wild;
    private long seed;
    private int tickets;

    private LongRunsTest(Checks checks, int run) {
        this.checks = checks;
        this.run = run;
        seed = 7919L * run + 17;
        clientRange = 1 + below(8);
        sectorRange = new int[] {40, 300, 5000, 99936}[below(4)];
        patienceRange = new int[] {1, 200, 3000, 1000001}[below(4)];
        submitShare = new int[] {25, 40, 55, 95}[below(4)];
        wild = below(4) == 0;
    }

    public static void main(String[] args) {
        Checks checks = new Checks("LongRunsTest");
        for (int run = 0; run < RUNS && checks.wrong() == 0; run++) {
            new LongRunsTest(checks, run).go();
        }
        checks.end();
    }

    private void go() {
        int calls = 0;
        while (calls < clientRange) {
            int id = calls++;
            int weight = 1 + below(12);
            int budget = below(2) == 0 ? 1 + below(40) : 1 + below(1000);
            compare("client " + id, () -> done(() -> disk.client(id, weight, budget)),
                    () -> done(() -> plain.client(id, weight, budget)));
        }
        while (calls++ < CALLS && checks.wrong() == 0) {
            step();
        }
    }

    private void step() {
        int dice = below(100);
        if (dice < submitShare) {
            submit();
        } else if (dice < submitShare + (100 - submitShare) / 2) {
            compare("dispatch", disk::dispatch, plain::dispatch);
        } else {
            other(below(9));
        }
    }

    private void submit() {
        int id = number(clientRange);
        boolean write = below(3) == 0;
        int sector = number(sectorRange);
        int count = wild ? number(66) : 1 + below(64);
        int patience = number(patienceRange);
        compare("submit", () -> disk.submit(id, write, sector, count, patience),
                () -> plain.submit(id, write, sector, count, patience));
        tickets = (int) plain.count(1) + (int) plain.count(2);
    }

    private void other(int kind) {
        int a = number(clientRange);
        int b = number(9);
        int c = number(kind < 3 ? 1001 : 26);
        switch (kind) {
            case 0:
                compare("client", () -> done(() -> disk.client(a, 1 + b, 1 + c)),
                        () -> done(() -> plain.client(a, 1 + b, 1 + c)));
                break;
            case 1:
                compare("gone", () -> done(() -> disk.gone(a)), () -> done(() -> plain.gone(a)));
                break;
            case 2:
                compare("pass", () -> disk.pass(c), () -> plain.pass(c));
                break;
            case 3: {
                int ticket = number(tickets + 1);
                compare("state", () -> disk.state(ticket), () -> plain.state(ticket));
                break;
            }
            case 4: {
                int i = number(tickets + 1);
                compare("order", () -> disk.order(i), () -> plain.order(i));
                break;
            }
            case 5:
                compare("tag", () -> disk.tag(b), () -> plain.tag(b));
                break;
            case 6:
            case 7: {
                int d = number(clientRange);
                compare("lag", () -> disk.lag(a, d), () -> plain.lag(a, d));
                break;
            }
            default:
                compare("count", () -> disk.count(c), () -> plain.count(c));
        }
    }

    private void compare(String call, LongSupplier got, LongSupplier want) {
        checks.dueText("run " + run + ": " + call, answer(want), answer(got));
    }

    private static String answer(LongSupplier call) {
        try {
            return Long.toString(call.getAsLong());
        } catch (RuntimeException e) {
            return "throws " + e.getClass().getSimpleName();
        }
    }

    private static long done(Checks.Call call) {
        call.run();
        return 0;
    }

    /** Mostly a number that fits, in a wild run now and then one that does not. */
    private int number(int range) {
        return wild && below(12) == 0 ? ODD[below(ODD.length)] : below(range);
    }

    private int below(int bound) {
        seed = seed * 6364136223846793005L + 1442695040888963407L;
        return (int) ((seed >>> 33) % bound);
    }
}
