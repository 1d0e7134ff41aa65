/** Each sentence of the promises 1 to 11 that names an edge: what lies on both sides of it. */
final class CallEdgesTest {
    private static final long UNIT = Disks.UNIT;
    private static final int LEAST = Disks.LEAST;
    private static final int MOST = Disks.MOST;
    private static final Checks CHECKS = new Checks("CallEdgesTest");

    public static void main(String[] args) {
        newObject();
        clientThatIsThere();
        clientNumbers();
        goneWhenNotThere();
        goneWhenOneWaits();
        goneEndsItsSlice();
        patience();
        submitWhenClientIsFull();
        submitWhenTicketsAreOut();
        submitWhenNotThere();
        submitThrowsWhenFull();
        dispatchWhenNoneWaits();
        pass();
        stateOfEachKind();
        stateOfNoTicket();
        stateOfTheLastTicket();
        order();
        orderOfNone();
        tag();
        tagOfNone();
        lagWhileNotBothHaveSome();
        lagBehindAGap();
        lagWithoutAGap();
        lagOfWrongClients();
        countOfClients();
        countOfRequests();
        countOfHeadAndWay();
        countOfTheSlice();
        countOfSectorsOfAClient();
        countOfWaitingOfAClient();
        countOfOthers();
        theLastCall();
        CHECKS.end();
    }

    private static void due(String what, long want, long got) {
        CHECKS.due(what, want, got);
    }

    private static void newObject() {
        CHECKS.begin("1: No clients, no requests");
        ShareDisk disk = new ShareDisk();
        due("clients", 0, disk.count(0));
        due("waiting", 0, disk.count(1));
        due("served", 0, disk.count(2));
        due("dispatch", -1, disk.dispatch());
        due("order", -1, disk.order(0));
        CHECKS.outOfBounds("state", () -> disk.state(0));
        for (int id = 0; id < 8; id++) {
            int each = id;
            CHECKS.illegalArgument("gone " + id, () -> disk.gone(each));
        }
    }

    private static void clientThatIsThere() {
        CHECKS.begin("2: one that is there gets others (its tag and slice stay)");
        ShareDisk disk = Disks.withClients(10, 0);
        Disks.serve(disk, 0, 0, 5);
        Disks.read(disk, 0, 5, 7);
        Disks.read(disk, 0, 12, 2);
        Disks.read(disk, 0, 14, 1);
        Disks.read(disk, 0, 15, 1);
        disk.dispatch();
        disk.client(0, 12, 1);
        due("clients", 1, disk.count(0));
        due("its tag", 12 * UNIT, disk.tag(0));
        due("its slice", 0, disk.count(6));
        due("left, though the budget is less", 3, disk.count(7));
        due("its sectors", 12, disk.count(8));
        due("its requests", 3, disk.count(16));
        disk.dispatch();
        due("the new weight", 12 * UNIT + 2 * UNIT / 12, disk.tag(0));
        disk.client(0, 12, 1000);
        due("left, though the budget is more", 1, disk.count(7));
        disk.dispatch();
        due("it ends", -1, disk.count(6));
        Disks.read(disk, 0, 16, 1);
        disk.dispatch();
        due("the new budget", 999, disk.count(7));
    }

    private static void clientNumbers() {
        CHECKS.begin("2: IllegalArgumentException when one of the numbers is not as said");
        int[][] wrong = {{-1, 5, 5}, {8, 5, 5}, {3, 0, 5}, {3, 13, 5}, {3, 5, 0}, {3, 5, 1001},
            {-1, 0, 0}, {8, 13, 1001}, {LEAST, 5, 5}, {MOST, 5, 5}, {3, LEAST, 5}, {3, MOST, 5},
            {3, 5, LEAST}, {3, 5, MOST}};
        for (int[] row : wrong) {
            String call = "client " + row[0] + " " + row[1] + " " + row[2];
            ShareDisk empty = new ShareDisk();
            CHECKS.illegalArgument(call, () -> empty.client(row[0], row[1], row[2]));
            due(call + ": no client is there", 0, empty.count(0));
            ShareDisk disk = Disks.withClients(10, 3);
            CHECKS.illegalArgument(call, () -> disk.client(row[0], row[1], row[2]));
            Disks.read(disk, 3, 0, 4);
            Disks.read(disk, 3, 4, 4);
            disk.dispatch();
            due(call + ": the weight stays", 4 * UNIT, disk.tag(3));
            due(call + ": the budget stays", 6, disk.count(7));
        }
    }

    private static void goneWhenNotThere() {
        CHECKS.begin("3: IllegalArgumentException when it is not there");
        ShareDisk disk = Disks.withClients(1, 0, 7);
        for (int id : new int[] {-1, 8, 1, 6, LEAST, MOST}) {
            CHECKS.illegalArgument("gone " + id, () -> disk.gone(id));
        }
        due("both are there", 2, disk.count(0));
        disk.gone(0);
        disk.gone(7);
        due("both are gone", 0, disk.count(0));
        CHECKS.illegalArgument("gone 0 again", () -> disk.gone(0));
        CHECKS.illegalArgument("gone 7 again", () -> disk.gone(7));
        disk.client(7, 1, 1);
        disk.gone(7);
        due("there anew, gone anew", 0, disk.count(0));
    }

    private static void goneWhenOneWaits() {
        CHECKS.begin("3: else IllegalStateException when a request of it waits");
        ShareDisk disk = Disks.withClients(1, 0, 1);
        Disks.read(disk, 0, 0, 1);
        Disks.read(disk, 0, 0, 1);
        CHECKS.illegalState("two wait", () -> disk.gone(0));
        disk.dispatch();
        CHECKS.illegalState("one waits", () -> disk.gone(0));
        due("it is there", 2, disk.count(0));
        due("its sectors stay", 1, disk.count(8));
        disk.gone(1);
        due("another's do not matter", 1, disk.count(0));
        disk.dispatch();
        disk.gone(0);
        due("none waits", 0, disk.count(0));
    }

    private static void goneEndsItsSlice() {
        CHECKS.begin("3: a slice of it ends");
        ShareDisk disk = Disks.withClients(100, 0, 1);
        Disks.serve(disk, 0, 0, 1);
        disk.gone(0);
        due("no slice", -1, disk.count(6));
        due("nothing left", 0, disk.count(7));
        Disks.read(disk, 1, 0, 1);
        Disks.read(disk, 1, 1, 1);
        disk.dispatch();
        disk.client(0, 1, 1);
        disk.gone(0);
        due("another's slice stays", 1, disk.count(6));
        due("and what is left of it", 99, disk.count(7));
    }

    private static void patience() {
        CHECKS.begin("4: its deadline is the clock and patience (0 .. 1000000)");
        ShareDisk disk = Disks.withClients(1, 0);
        for (int patience : new int[] {-1, 1000001, LEAST, MOST}) {
            CHECKS.illegalArgument("patience " + patience,
                    () -> disk.submit(0, false, 0, 1, patience));
        }
        due("patience 0", 0, disk.submit(0, false, 0, 1, 0));
        due("patience 1000000", 1, disk.submit(0, false, 0, 1, 1000000));
        disk.dispatch();
        due("at once", 3, disk.state(0));
        disk.dispatch();
        due("not for long", 2, disk.state(1));
    }

    private static void submitWhenClientIsFull() {
        CHECKS.begin("4: NONE when 64 of this client wait");
        ShareDisk disk = Disks.withClients(1, 0, 1);
        Disks.read(disk, 1, 0, 1);
        for (int i = 0; i < 63; i++) {
            Disks.read(disk, 0, 0, 1);
        }
        due("the 64th", 64, Disks.read(disk, 0, 0, 1));
        due("64 wait", 64, disk.count(16));
        due("the 65th", -1, Disks.read(disk, 0, 0, 1));
        due("64 wait still", 64, disk.count(16));
        due("and one of the other", 65, disk.count(1));
        due("another client's", 65, Disks.read(disk, 1, 0, 1));
        disk.dispatch();
        due("63 wait", 63, disk.count(16));
        due("the 64th again", 66, Disks.read(disk, 0, 0, 1));
        due("the 65th again", -1, Disks.read(disk, 0, 0, 1));
    }

    private static void submitWhenTicketsAreOut() {
        CHECKS.begin("4: NONE when .. there were 500 tickets");
        ShareDisk disk = Disks.withClients(1, 0, 1, 2, 3, 4, 5, 6, 7);
        for (int ticket = 0; ticket < 499; ticket++) {
            Disks.read(disk, ticket / 64, ticket, 1);
        }
        due("the 500th", 499, Disks.read(disk, 7, 0, 1));
        due("the 501st, though 52 of it wait", -1, Disks.read(disk, 7, 0, 1));
        due("500 wait", 500, disk.count(1));
        due("52 of it", 52, disk.count(23));

        ShareDisk served = Disks.withAllTickets();
        due("one is served", 0, served.dispatch());
        due("499 wait, but there were 500", -1, Disks.read(served, 0, 0, 1));
        due("499 wait still", 499, served.count(1));
    }

    private static void submitWhenNotThere() {
        CHECKS.begin("4: IllegalArgumentException when the client is not there");
        ShareDisk disk = Disks.withClients(1, 0, 7);
        for (int id : new int[] {-1, 8, 1, 6, LEAST, MOST}) {
            CHECKS.illegalArgument("submit " + id, () -> Disks.read(disk, id, 0, 1));
        }
        disk.gone(7);
        CHECKS.illegalArgument("one that is gone", () -> Disks.read(disk, 7, 0, 1));
        due("none waits", 0, disk.count(1));
        disk.client(7, 1, 1);
        due("one that is there anew", 0, Disks.read(disk, 7, 0, 1));
    }

    private static void submitThrowsWhenFull() {
        CHECKS.begin("4: IllegalArgumentException when .. are not as said, though 64 wait");
        ShareDisk disk = Disks.withClients(1, 0);
        for (int i = 0; i < 64; i++) {
            Disks.read(disk, 0, 0, 1);
        }
        CHECKS.illegalArgument("sector", () -> disk.submit(0, true, 100000, 1, 0));
        CHECKS.illegalArgument("count", () -> disk.submit(0, true, 0, 65, 0));
        CHECKS.illegalArgument("patience", () -> disk.submit(0, true, 0, 1, 1000001));
        CHECKS.illegalArgument("client", () -> disk.submit(1, true, 0, 1, 0));
        ShareDisk full = Disks.withAllTickets();
        CHECKS.illegalArgument("sector of 501", () -> full.submit(7, true, -1, 1, 0));
        CHECKS.illegalArgument("count of 501", () -> full.submit(7, true, 0, 0, 0));
        CHECKS.illegalArgument("patience of 501", () -> full.submit(7, true, 0, 1, -1));
        CHECKS.illegalArgument("client of 501", () -> full.submit(8, true, 0, 1, 0));
    }

    private static void dispatchWhenNoneWaits() {
        CHECKS.begin("5: its ticket; NONE when none waits");
        ShareDisk disk = new ShareDisk();
        due("no client", -1, disk.dispatch());
        disk.client(0, 1, 10);
        due("no request", -1, disk.dispatch());
        due("no slice began", -1, disk.count(6));
        due("one that waits", 0, Disks.serve(disk, 0, 250, 4));
        due("none waits any more", -1, disk.dispatch());
        due("the clock stays", 6, disk.pass(0));
        due("the head stays", 254, disk.count(4));
        due("no service more", 1, disk.count(2));
        due("no slice", -1, disk.count(6));
        due("one that comes then", 1, Disks.serve(disk, 0, 0, 1));
        disk.gone(0);
        due("all are gone", -1, disk.dispatch());
    }

    private static void pass() {
        CHECKS.begin("6: n (0 .. 1000000) more on the clock");
        ShareDisk disk = new ShareDisk();
        due("1000000", 1000000, disk.pass(1000000));
        for (int n : new int[] {-1, 1000001, LEAST, MOST}) {
            CHECKS.illegalArgument("pass " + n, () -> disk.pass(n));
            due("0 behind it", 1000000, disk.pass(0));
        }
        due("1", 1000001, disk.pass(1));
        ShareDisk late = new ShareDisk();
        for (int i = 1; i < 512; i++) {
            late.pass(1000000);
        }
        due("the most that it can be", 512000000L, late.pass(1000000));
    }

    private static void stateOfEachKind() {
        CHECKS.begin("7: 0 it waits and is blocked, 1 it waits and is not, 2 it was served in a"
                + " slice, or as an urgent one (3)");
        ShareDisk disk = Disks.withClients(10, 0);
        Disks.write(disk, 0, 0, 1);
        Disks.write(disk, 0, 0, 1);
        due("waits", 1, disk.state(0));
        due("is blocked", 0, disk.state(1));
        disk.dispatch();
        due("was served", 2, disk.state(0));
        due("waits then", 1, disk.state(1));
        disk.pass(Disks.FAR);
        disk.dispatch();
        due("was urgent", 3, disk.state(1));
        due("stays as it was", 2, disk.state(0));
        disk.gone(0);
        due("though its client is gone", 3, disk.state(1));
    }

    private static void stateOfNoTicket() {
        CHECKS.begin("7: IndexOutOfBoundsException when there is none such");
        ShareDisk disk = Disks.withClients(10, 0);
        CHECKS.outOfBounds("0 of none", () -> disk.state(0));
        Disks.read(disk, 0, 0, 1);
        CHECKS.outOfBounds("1 of one", () -> disk.state(1));
        Disks.read(disk, 0, 0, 1);
        disk.dispatch();
        due("0 of two", 2, disk.state(0));
        due("1 of two", 1, disk.state(1));
        for (int ticket : new int[] {-1, 2, 499, 500, 501, LEAST, MOST}) {
            CHECKS.outOfBounds(ticket + " of two", () -> disk.state(ticket));
        }
        CHECKS.illegalArgument("a refused one", () -> Disks.read(disk, 0, 0, 0));
        CHECKS.outOfBounds("gets no ticket", () -> disk.state(2));
    }

    private static void stateOfTheLastTicket() {
        CHECKS.begin("7: Of a ticket: the last that can be");
        ShareDisk disk = Disks.withAllTickets();
        due("499", 1, disk.state(499));
        CHECKS.outOfBounds("500", () -> disk.state(500));
        Disks.read(disk, 7, 0, 1);
        CHECKS.outOfBounds("500, behind a submit that answers NONE", () -> disk.state(500));
    }

    private static void order() {
        CHECKS.begin("8: The ticket of the i-th request (from 0) that was served");
        ShareDisk disk = Disks.withClients(1000, 0);
        for (int i = 0; i < 64; i++) {
            Disks.read(disk, 0, 1000 - i, 1);
        }
        for (int i = 0; i < 64; i++) {
            disk.dispatch();
        }
        for (int i = 0; i < 64; i++) {
            due("order " + i, 63 - i, disk.order(i));
        }
        due("behind the last", -1, disk.order(64));
        Disks.urgent(disk, 0, 0, 1);
        disk.dispatch();
        due("an urgent one, too", 64, disk.order(64));
        disk.gone(0);
        due("when its client is gone, too", 64, disk.order(64));
    }

    private static void orderOfNone() {
        CHECKS.begin("8: NONE when there is none");
        ShareDisk disk = Disks.withClients(1000, 0);
        due("a new object", -1, disk.order(0));
        Disks.read(disk, 0, 0, 1);
        due("one that waits", -1, disk.order(0));
        disk.dispatch();
        due("it was served", 0, disk.order(0));
        for (int i : new int[] {-1, 1, 2, 499, 500, 501, LEAST, MOST}) {
            due("order " + i, -1, disk.order(i));
        }
    }

    private static void tag() {
        CHECKS.begin("9: A client's tag; for 8 the system's");
        ShareDisk disk = Disks.withClients(1, 0, 7);
        due("0", 0, disk.tag(0));
        due("7", 0, disk.tag(7));
        due("8", 0, disk.tag(8));
        Disks.read(disk, 7, 0, 2);
        Disks.read(disk, 7, 0, 1);
        disk.dispatch();
        due("0 then", 0, disk.tag(0));
        due("7 then", 2 * UNIT, disk.tag(7));
        due("8 then", 0, disk.tag(8));
        disk.dispatch();
        due("8 at last", 3 * UNIT, disk.tag(8));
        due("8 of no clients", 0, new ShareDisk().tag(8));
    }

    private static void tagOfNone() {
        CHECKS.begin("9: IllegalArgumentException when there is none");
        ShareDisk disk = Disks.withClients(1, 0, 7);
        for (int id : new int[] {-1, 1, 6, 9, LEAST, MOST}) {
            CHECKS.illegalArgument("tag " + id, () -> disk.tag(id));
        }
        disk.gone(7);
        CHECKS.illegalArgument("one that is gone", () -> disk.tag(7));
    }

    private static void lagWhileNotBothHaveSome() {
        CHECKS.begin("10: 0 while not both have some");
        ShareDisk disk = Disks.withClients(1, 0, 7);
        due("none has", 0, disk.lag(0, 7));
        Disks.read(disk, 0, 0, 1);
        Disks.read(disk, 0, 0, 1);
        Disks.read(disk, 0, 0, 1);
        disk.dispatch();
        due("a has", 0, disk.lag(0, 7));
        due("b has", 0, disk.lag(7, 0));
        Disks.read(disk, 7, 0, 1);
        due("both have, from now on", 0, disk.lag(0, 7));
        Disks.urgent(disk, 0, 0, 1);
        disk.dispatch();
        due("a grew", UNIT, disk.lag(0, 7));
        due("b is behind", -UNIT, disk.lag(7, 0));
        disk.dispatch();
        due("b's last was served", 0, disk.lag(0, 7));
        due("and the other way round", 0, disk.lag(7, 0));
    }

    private static void lagBehindAGap() {
        CHECKS.begin("10: (behind the service of a last one that waits there is a gap)");
        ShareDisk disk = Disks.withClients(1, 0, 1, 2);
        Disks.read(disk, 0, 0, 1);
        for (int i = 0; i < 3; i++) {
            Disks.read(disk, 1, 0, 2);
            Disks.read(disk, 2, 0, 4);
        }
        disk.dispatch();
        Disks.read(disk, 0, 0, 1);
        due("the last one of a was served", 0, disk.lag(0, 1));
        disk.dispatch();
        due("it begins behind the gap", -2 * UNIT, disk.lag(0, 1));
        due("b's has none: against 2", 2 * UNIT, disk.lag(1, 2));
        disk.dispatch();
        due("0 and 2 behind the gap", -4 * UNIT, disk.lag(0, 2));
        due("1 and 2 without one", -2 * UNIT, disk.lag(1, 2));
        Disks.urgent(disk, 0, 0, 1);
        disk.dispatch();
        disk.dispatch();
        due("an urgent one, and the last", 0, disk.lag(0, 1));
        Disks.read(disk, 0, 0, 1);
        due("anew", 0, disk.lag(0, 1));
    }

    private static void lagWithoutAGap() {
        CHECKS.begin("10: since requests of both have waited without a gap");
        ShareDisk disk = Disks.withClients(1, 0, 1);
        Disks.read(disk, 0, 0, 1);
        Disks.read(disk, 1, 0, 64);
        Disks.read(disk, 1, 0, 64);
        for (int i = 1; i < 5; i++) {
            Disks.urgent(disk, 0, 0, 1);
            disk.dispatch();
            due("one of 0 waits all the time", i * UNIT, disk.lag(0, 1));
        }
        due("1 is served", 1, disk.dispatch());
        due("by its own growth", -60 * UNIT, disk.lag(0, 1));
        disk.client(0, 12, 1);
        Disks.urgent(disk, 0, 0, 1);
        disk.dispatch();
        due("by the weight of that time", -60 * UNIT + UNIT / 12, disk.lag(0, 1));

        ShareDisk raised = Disks.withClients(1, 0, 1);
        Disks.serve(raised, 0, 0, 9);
        Disks.read(raised, 0, 0, 1);
        Disks.read(raised, 1, 0, 1);
        due("raised by the system's", 9 * UNIT, raised.tag(1));
        due("that is no growth by services", 0, raised.lag(1, 0));
    }

    private static void lagOfWrongClients() {
        CHECKS.begin("10: IllegalArgumentException when one of both is not there, or both are one");
        ShareDisk disk = Disks.withClients(1, 0, 7);
        int[][] wrong = {{-1, 0}, {0, -1}, {8, 0}, {0, 8}, {1, 0}, {0, 1}, {6, 7}, {7, 6}, {0, 0},
            {7, 7}, {1, 1}, {1, 2}, {8, 8}, {-1, -1}, {LEAST, 0}, {0, LEAST}, {MOST, 0}, {0, MOST}};
        for (int[] row : wrong) {
            CHECKS.illegalArgument("lag " + row[0] + " " + row[1],
                    () -> disk.lag(row[0], row[1]));
        }
        due("0 and 7", 0, disk.lag(0, 7));
        due("7 and 0", 0, disk.lag(7, 0));
        disk.gone(7);
        CHECKS.illegalArgument("a is gone", () -> disk.lag(7, 0));
        CHECKS.illegalArgument("b is gone", () -> disk.lag(0, 7));
    }

    private static void countOfClients() {
        CHECKS.begin("11: 0 clients that are there");
        ShareDisk disk = new ShareDisk();
        due("none", 0, disk.count(0));
        for (int id = 0; id < 8; id++) {
            disk.client(id, 1, 1);
            due("one more", id + 1, disk.count(0));
            disk.client(id, 2, 2);
            due("the same again", id + 1, disk.count(0));
        }
        for (int id = 7; id >= 0; id--) {
            disk.gone(id);
            due("one less", id, disk.count(0));
        }
    }

    private static void countOfRequests() {
        CHECKS.begin("11: 1 requests that wait, 2 that were served, 3 urgent ones of these");
        ShareDisk disk = Disks.withClients(10, 0, 1);
        long[][] want = {{0, 0, 0}, {2, 0, 0}, {1, 1, 1}, {0, 2, 1}, {0, 2, 1}, {0, 2, 1}};
        for (int step = 0; step < want.length; step++) {
            if (step == 1) {
                Disks.urgent(disk, 1, 0, 1);
                Disks.read(disk, 0, 0, 1);
            } else if (step == 5) {
                disk.gone(0);
                disk.gone(1);
            } else if (step > 1) {
                disk.dispatch();
            }
            for (int what = 1; what <= 3; what++) {
                due("step " + step + ", count " + what, want[step][what - 1], disk.count(what));
            }
        }
    }

    private static void countOfHeadAndWay() {
        CHECKS.begin("11: 4 the head, 5 sectors that the head passed over between requests");
        ShareDisk disk = Disks.withClients(1, 0);
        long[][] rows = {{0, 1, 1, 0}, {1, 1, 2, 0}, {3, 1, 4, 1}, {3, 1, 4, 2},
            {99936, 64, 100000, 99934}, {0, 64, 64, 199934}, {63, 1, 64, 199935}};
        for (long[] row : rows) {
            Disks.serve(disk, 0, (int) row[0], (int) row[1]);
            due("head behind " + row[0], row[2], disk.count(4));
            due("way to " + row[0], row[3], disk.count(5));
        }
    }

    private static void countOfTheSlice() {
        CHECKS.begin("11: 6 the client that has a slice (NONE without), 7 what is left of it (0"
                + " without)");
        for (int id : new int[] {0, 7}) {
            ShareDisk disk = Disks.withClients(5, id);
            due("without a slice", -1, disk.count(6));
            due("nothing left", 0, disk.count(7));
            Disks.read(disk, id, 0, 4);
            Disks.read(disk, id, 4, 64);
            due("none till it is served", -1, disk.count(6));
            disk.dispatch();
            due("a slice", id, disk.count(6));
            due("one left", 1, disk.count(7));
            disk.dispatch();
            due("no slice any more", -1, disk.count(6));
            due("not less than nothing", 0, disk.count(7));
        }
    }

    private static void countOfSectorsOfAClient() {
        CHECKS.begin("11: 8 + k (k 0 .. 7) sectors served of client k (0 anew when it is gone)");
        ShareDisk disk = Disks.withClients(64, 0, 1, 2, 3, 4, 5, 6, 7);
        for (int k = 0; k < 8; k++) {
            Disks.serve(disk, k, 0, 2 * k + 1);
            Disks.urgent(disk, k, 0, 40);
            due("one that waits does not count", 2 * k + 1, disk.count(8 + k));
            disk.dispatch();
        }
        for (int k = 0; k < 8; k++) {
            due("sectors of " + k, 2 * k + 41, disk.count(8 + k));
        }
        disk.gone(7);
        due("gone", 0, disk.count(15));
        due("another's", 53, disk.count(14));
        disk.client(7, 1, 64);
        due("there anew", 0, disk.count(15));
        Disks.serve(disk, 7, 0, 64);
        due("from 0 on", 64, disk.count(15));
        disk.client(7, 2, 2);
        due("told again", 64, disk.count(15));
    }

    private static void countOfWaitingOfAClient() {
        CHECKS.begin("11: 16 + k requests of it that wait");
        ShareDisk disk = Disks.withClients(64, 0, 1, 2, 3, 4, 5, 6, 7);
        for (int k = 0; k < 8; k++) {
            for (int i = 0; i <= k; i++) {
                Disks.write(disk, k, 0, 1);
            }
        }
        for (int k = 0; k < 8; k++) {
            due("waiting of " + k + ", blocked or not", k + 1, disk.count(16 + k));
        }
        disk.dispatch();
        due("0 was served", 0, disk.count(16));
        due("1 was not", 2, disk.count(17));
        disk.gone(0);
        due("gone", 0, disk.count(16));
    }

    private static void countOfOthers() {
        CHECKS.begin("11: NONE for others");
        ShareDisk disk = Disks.withClients(64, 0, 7);
        for (int what : new int[] {-1, 24, 25, -2, -8, -16, 31, 500, LEAST, MOST}) {
            due("count " + what, -1, disk.count(what));
        }
        due("23 is not another", 0, disk.count(23));
        due("0 is not another", 2, disk.count(0));
        due("8 is of a client", 0, disk.count(8));
        due("of one that never was there", 0, disk.count(9));
        due("that waits", 0, disk.count(17));
    }

    private static void theLastCall() {
        CHECKS.begin("An object is used for at most 512 calls");
        ShareDisk disk = Disks.withClients(1000, 0);
        for (int call = 2; call <= 511; call += 2) {
            due("ticket", call / 2 - 1, Disks.read(disk, 0, call, 1));
            due("is served", call / 2 - 1, disk.dispatch());
        }
        due("the 512th call", 255, disk.count(2));
    }
}
