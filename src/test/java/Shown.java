import java.util.function.LongSupplier;

/** All that an object shows, as a text. */
final class Shown {
    private Shown() {
    }

    /** What the object shows now, by 67 calls and two for each ticket. */
    static String now(ShareDisk disk, int tickets) {
        StringBuilder text = new StringBuilder();
        text.append("clock ").append(disk.pass(0)).append(", counts");
        for (int what = -1; what <= 24; what++) {
            text.append(' ').append(disk.count(what));
        }
        text.append(", tags");
        for (int id = 0; id <= 8; id++) {
            int each = id;
            text.append(' ').append(answer(() -> disk.tag(each)));
        }
        text.append(", lags");
        for (int a = 0; a < 8; a++) {
            for (int b = a + 1; b < 8; b++) {
                int one = a;
                int other = b;
                text.append(' ').append(answer(() -> disk.lag(one, other)));
            }
        }
        text.append(", states");
        for (int ticket = 0; ticket <= tickets; ticket++) {
            int each = ticket;
            text.append(' ').append(answer(() -> disk.state(each)));
        }
        text.append(", order");
        for (int i = 0; i <= tickets; i++) {
            text.append(' ').append(disk.order(i));
        }
        return text.toString();
    }

    /** What it shows when all clients have asked for more and all that waits has been served. */
    static String later(ShareDisk disk, int tickets) {
        StringBuilder text = new StringBuilder("new tickets");
        for (int id = 0; id < 8; id++) {
            int each = id;
            text.append(' ').append(answer(() -> disk.submit(each, true, 40 * each, 5, 900)));
        }
        text.append(", served");
        for (int i = 0; i < tickets + 9; i++) {
            text.append(' ').append(disk.dispatch());
        }
        disk.client(4, 1, 1);
        return text.append(", ").append(now(disk, tickets + 8)).toString();
    }

    static String answer(LongSupplier call) {
        try {
            return Long.toString(call.getAsLong());
        } catch (RuntimeException e) {
            return e.getClass().getSimpleName();
        }
    }
}
