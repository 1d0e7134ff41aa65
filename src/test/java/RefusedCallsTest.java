import java.util.ArrayList;
import java.util.List;
import java.util.function.Supplier;
import java.util.function.ToLongFunction;

/**
 * A call that is refused, by an exception or by NONE, changes nothing that later calls show: each
 * is made on a disk in several states, which is compared with one on which it was not made.
 */
final class RefusedCallsTest {
    private static final String ARGUMENT = "IllegalArgumentException";
    private static final String STATE = "IllegalStateException";
    private static final String BOUNDS = "IndexOutOfBoundsException";
    private static final String NONE = "-1";
    private static final int LEAST = Disks.LEAST;
    private static final int MOST = Disks.MOST;
    private static final Checks CHECKS = new Checks("RefusedCallsTest");

    private record Refused(String name, String want, ToLongFunction<ShareDisk> call) {
    }

    public static void main(String[] args) {
        List<Refused> always = refusedAlways();
        List<Refused> usual = with(always, refusedWithoutClientFive());
        compare("no clients", ShareDisk::new, 0, with(usual, dispatch(), gone(0, ARGUMENT)));
        compare("no requests", RefusedCallsTest::idle, 3, with(usual, dispatch()));
        compare("in a slice", RefusedCallsTest::inSlice, 8, with(usual, gone(0, STATE),
                gone(3, STATE)));
        compare("between slices", RefusedCallsTest::betweenSlices, 4, with(usual, gone(0, STATE),
                gone(3, STATE)));
        compare("64 of a client", RefusedCallsTest::fullClient, 67, with(usual, gone(0, STATE),
                submit(0, NONE, 0, 1, 0), submit(0, NONE, 99936, 64, Disks.FAR)));
        whenTicketsAreOut(with(always, gone(7, STATE), submit(0, NONE, 0, 1, 0),
                submit(7, NONE, 0, 1, 0), submit(7, NONE, 99936, 64, Disks.FAR)));
        CHECKS.end();
    }

    private static List<Refused> refusedAlways() {
        List<Refused> all = new ArrayList<>();
        int[][] clients = {{-1, 2, 2}, {8, 2, 2}, {0, 0, 2}, {0, 13, 2}, {0, 2, 0}, {0, 2, 1001},
            {5, 0, 2}, {5, 13, 2}, {5, 2, 0}, {5, 2, 1001}, {3, 0, 0}, {LEAST, 2, 2},
            {MOST, 2, 2}, {0, LEAST, MOST}};
        for (int[] row : clients) {
            all.add(new Refused("client " + row[0] + " " + row[1] + " " + row[2], ARGUMENT,
                    disk -> {
                        disk.client(row[0], row[1], row[2]);
                        return 0;
                    }));
        }
        for (int id : new int[] {-1, 8, LEAST, MOST}) {
            all.add(gone(id, ARGUMENT));
            all.add(submit(id, ARGUMENT, 0, 1, 0));
        }
        int[][] requests = {{-1, 1, 0}, {100000, 1, 0}, {99999, 2, 0}, {99937, 64, 0}, {5, 0, 0},
            {5, 65, 0}, {5, 1, -1}, {5, 1, 1000001}, {LEAST, 1, 0}, {MOST, 64, 0}, {5, LEAST, 0},
            {5, MOST, 0}, {5, 1, LEAST}, {5, 1, MOST}};
        for (int[] row : requests) {
            for (int id : new int[] {0, 3, 7}) {
                all.add(submit(id, ARGUMENT, row[0], row[1], row[2]));
            }
        }
        for (int n : new int[] {-1, 1000001, LEAST, MOST}) {
            all.add(new Refused("pass " + n, ARGUMENT, disk -> disk.pass(n)));
        }
        addQuestions(all);
        return all;
    }

    private static void addQuestions(List<Refused> all) {
        for (int ticket : new int[] {-1, 500, LEAST, MOST}) {
            all.add(new Refused("state " + ticket, BOUNDS, disk -> disk.state(ticket)));
            all.add(new Refused("order " + ticket, NONE, disk -> disk.order(ticket)));
        }
        for (int id : new int[] {-1, 9, LEAST, MOST}) {
            all.add(new Refused("tag " + id, ARGUMENT, disk -> disk.tag(id)));
        }
        int[][] pairs = {{-1, 0}, {0, 8}, {0, 0}, {3, 3}, {8, 8}};
        for (int[] pair : pairs) {
            all.add(new Refused("lag " + pair[0] + " " + pair[1], ARGUMENT,
                    disk -> disk.lag(pair[0], pair[1])));
        }
        for (int what : new int[] {-1, 24, LEAST, MOST}) {
            all.add(new Refused("count " + what, NONE, disk -> disk.count(what)));
        }
    }

    private static Refused[] refusedWithoutClientFive() {
        return new Refused[] {gone(5, ARGUMENT), submit(5, ARGUMENT, 0, 1, 0),
            new Refused("tag 5", ARGUMENT, disk -> disk.tag(5)),
            new Refused("lag 0 5", ARGUMENT, disk -> disk.lag(0, 5)),
            new Refused("lag 5 0", ARGUMENT, disk -> disk.lag(5, 0))};
    }

    private static Refused gone(int id, String want) {
        return new Refused("gone " + id, want, disk -> {
            disk.gone(id);
            return 0;
        });
    }

    private static Refused submit(int id, String want, int sector, int count, int patience) {
        return new Refused("submit " + id + " " + sector + " " + count + " " + patience, want,
                disk -> disk.submit(id, true, sector, count, patience));
    }

    private static Refused dispatch() {
        return new Refused("dispatch", NONE, ShareDisk::dispatch);
    }

    private static List<Refused> with(List<Refused> some, Refused... more) {
        List<Refused> all = new ArrayList<>(some);
        all.addAll(List.of(more));
        return all;
    }

    private static ShareDisk idle() {
        ShareDisk disk = Disks.withClients(20, 0, 3, 6, 7);
        disk.client(3, 5, 7);
        disk.pass(123);
        Disks.read(disk, 0, 700, 9);
        Disks.urgent(disk, 3, 30, 4);
        Disks.read(disk, 6, 30, 4);
        for (int i = 0; i < 3; i++) {
            disk.dispatch();
        }
        disk.gone(6);
        return disk;
    }

    private static ShareDisk inSlice() {
        ShareDisk disk = Disks.withClients(20, 0, 3, 7);
        disk.client(3, 5, 7);
        Disks.serve(disk, 0, 60, 6);
        Disks.write(disk, 0, 90, 4);
        Disks.read(disk, 0, 92, 4);
        disk.submit(0, false, 10, 2, 60);
        disk.submit(3, true, 10, 2, 50);
        Disks.read(disk, 3, 11, 8);
        Disks.urgent(disk, 3, 40, 1);
        Disks.read(disk, 0, 70, 3);
        disk.dispatch();
        disk.dispatch();
        return disk;
    }

    private static ShareDisk betweenSlices() {
        ShareDisk disk = Disks.withClients(4, 0, 3, 7);
        Disks.read(disk, 0, 5, 4);
        Disks.read(disk, 0, 9, 4);
        Disks.read(disk, 3, 9, 4);
        disk.submit(3, true, 200, 4, 30);
        disk.dispatch();
        return disk;
    }

    /** 64 of client 0 wait, and it has a slice. */
    private static ShareDisk fullClient() {
        ShareDisk disk = Disks.withClients(100, 0, 3, 7);
        Disks.serve(disk, 3, 50, 2);
        for (int i = 0; i < 64; i++) {
            disk.submit(0, i % 3 == 0, 5 * i, 7, 10 + 20 * i);
        }
        Disks.read(disk, 3, 20, 2);
        disk.dispatch();
        Disks.read(disk, 0, 20, 2);
        return disk;
    }

    private static void compare(String state, Supplier<ShareDisk> make, int tickets,
            List<Refused> calls) {
        CHECKS.begin("what a refused call leaves: " + state);
        CHECKS.due("tickets", tickets, make.get().count(1) + make.get().count(2));
        String now = Shown.now(make.get(), tickets);
        String later = Shown.later(make.get(), tickets);
        for (Refused refused : calls) {
            ShareDisk disk = make.get();
            ShareDisk other = make.get();
            CHECKS.dueText(refused.name, refused.want, answerOf(refused, disk));
            CHECKS.dueText(refused.name + ", now", now, Shown.now(disk, tickets));
            answerOf(refused, other);
            CHECKS.dueText(refused.name + ", later", later, Shown.later(other, tickets));
        }
    }

    /** Of 512 calls 4 are left there: the refused one, and three that look. */
    private static void whenTicketsAreOut(List<Refused> calls) {
        CHECKS.begin("what a refused call leaves: 500 tickets");
        List<ToLongFunction<ShareDisk>> looks = new ArrayList<>();
        for (int what : new int[] {0, 1, 2, 4, 6, 8, 15, 16, 23}) {
            looks.add(disk -> disk.count(what));
        }
        looks.add(disk -> disk.tag(0));
        looks.add(disk -> disk.tag(7));
        looks.add(disk -> disk.state(499));
        looks.add(disk -> disk.pass(0));
        looks.add(ShareDisk::dispatch);
        looks.add(disk -> disk.count(7));
        for (int first = 0; first < looks.size(); first += 3) {
            List<ToLongFunction<ShareDisk>> three = looks.subList(first, first + 3);
            String want = look(Disks.withAllTickets(), three);
            for (Refused refused : calls) {
                ShareDisk disk = Disks.withAllTickets();
                CHECKS.dueText(refused.name, refused.want, answerOf(refused, disk));
                CHECKS.dueText(refused.name + ", looks from " + first, want, look(disk, three));
            }
        }
    }

    private static String look(ShareDisk disk, List<ToLongFunction<ShareDisk>> looks) {
        StringBuilder text = new StringBuilder();
        for (ToLongFunction<ShareDisk> each : looks) {
            text.append(' ').append(Shown.answer(() -> each.applyAsLong(disk)));
        }
        return text.toString();
    }

    private static String answerOf(Refused refused, ShareDisk disk) {
        return Shown.answer(() -> refused.call.applyAsLong(disk));
    }
}
