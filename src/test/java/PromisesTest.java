/** Each promise of the document with ordinary inputs, the edges that it names and wrong inputs. */
final class PromisesTest {
    private static final int FAR = 1000000;
    private static final int UNIT = 27720;
    private static final Checks CHECKS = new Checks("PromisesTest");

    public static void main(String[] args) {
        newObject();
        clientNumbers();
        clientToldAgain();
        clientToldAnew();
        gone();
        submitNumbers();
        submitWhenFull();
        submitRaisesTag();
        deadlines();
        dispatchByTags();
        dispatchAlongTheHead();
        dispatchUrgent();
        sliceEnds();
        urgentAndSlice();
        systemTagWhenNoneWaits();
        pass();
        stateAndBlocked();
        order();
        tag();
        lag();
        lagBeginsAnew();
        counts();
        objectsAreApart();
        CHECKS.end();
    }

    private static void due(String what, long want, long got) {
        CHECKS.due(what, want, got);
    }

    private static int read(ShareDisk disk, int id, int sector, int count) {
        return disk.submit(id, false, sector, count, FAR);
    }

    private static int write(ShareDisk disk, int id, int sector, int count) {
        return disk.submit(id, true, sector, count, FAR);
    }

    private static void newObject() {
        ShareDisk disk = new ShareDisk();
        for (int what = 0; what < 24; what++) {
            due("1: count " + what, what == 6 ? -1 : 0, disk.count(what));
        }
        due("1: system's tag", 0, disk.tag(8));
        due("1: clock", 0, disk.pass(0));
        due("1: dispatch", -1, disk.dispatch());
        due("1: order", -1, disk.order(0));
        CHECKS.outOfBounds("1: state", () -> disk.state(0));
        for (int id = 0; id < 8; id++) {
            int each = id;
            CHECKS.illegalArgument("1: tag " + id, () -> disk.tag(each));
        }
    }

    private static void clientNumbers() {
        ShareDisk disk = new ShareDisk();
        int[][] wrong = {{-1, 1, 1}, {8, 1, 1}, {0, 0, 1}, {0, 13, 1}, {0, 1, 0}, {0, 1, 1001},
            {0, -5, 5}, {0, 5, -5}, {Integer.MAX_VALUE, 1, 1}, {Integer.MIN_VALUE, 1, 1},
            {0, Integer.MAX_VALUE, 1}, {0, 1, Integer.MAX_VALUE}};
        for (int[] row : wrong) {
            CHECKS.illegalArgument("2: client " + row[0] + " " + row[1] + " " + row[2],
                    () -> disk.client(row[0], row[1], row[2]));
        }
        due("2: wrong numbers leave no client", 0, disk.count(0));
        disk.client(0, 1, 1);
        disk.client(7, 12, 1000);
        due("2: the edges are fine", 2, disk.count(0));
        CHECKS.illegalArgument("2: one that is there", () -> disk.client(7, 13, 1));
        due("2: tag of a new client", 0, disk.tag(7));
    }

    private static void clientToldAgain() {
        ShareDisk disk = new ShareDisk();
        disk.client(3, 4, 10);
        read(disk, 3, 0, 6);
        read(disk, 3, 6, 1);
        read(disk, 3, 7, 2);
        read(disk, 3, 9, 60);
        read(disk, 3, 80, 1);
        disk.dispatch();
        due("2: left of the slice", 4, disk.count(7));
        disk.client(3, 6, 50);
        due("2: the tag stays", 6 * UNIT / 4, disk.tag(3));
        due("2: the slice stays", 3, disk.count(6));
        due("2: what is left stays", 4, disk.count(7));
        due("2: sectors served stay", 6, disk.count(11));
        due("2: still one client", 1, disk.count(0));
        disk.dispatch();
        due("2: the new weight counts from now on", 6 * UNIT / 4 + UNIT / 6, disk.tag(3));
        disk.dispatch();
        disk.dispatch();
        due("2: the old slice ends", -1, disk.count(6));
        read(disk, 3, 90, 1);
        disk.dispatch();
        due("2: the new budget counts for the next slice", 49, disk.count(7));
    }

    private static void clientToldAnew() {
        ShareDisk disk = new ShareDisk();
        disk.client(0, 1, 1);
        disk.client(1, 1, 1);
        read(disk, 0, 0, 3);
        disk.dispatch();
        due("2: system's tag", 3 * UNIT, disk.tag(8));
        due("2: one that was there keeps its tag", 0, disk.tag(1));
        disk.client(2, 5, 5);
        due("2: a new one begins with the system's", 3 * UNIT, disk.tag(2));
        read(disk, 0, 0, 5);
        read(disk, 1, 0, 1);
        disk.dispatch();
        disk.gone(2);
        disk.client(2, 5, 5);
        due("2: one told anew, too", 3 * UNIT, disk.tag(2));
        disk.dispatch();
        disk.gone(0);
        disk.client(0, 1, 1);
        due("2: not with its old one", 8 * UNIT, disk.tag(0));
    }

    private static void gone() {
        ShareDisk disk = new ShareDisk();
        CHECKS.illegalArgument("3: gone -1", () -> disk.gone(-1));
        CHECKS.illegalArgument("3: gone 8", () -> disk.gone(8));
        CHECKS.illegalArgument("3: not there", () -> disk.gone(0));
        disk.client(0, 1, 100);
        disk.client(1, 1, 100);
        read(disk, 0, 0, 4);
        CHECKS.illegalState("3: one waits", () -> disk.gone(0));
        due("3: and it is there still", 2, disk.count(0));
        disk.gone(1);
        due("3: one is gone", 1, disk.count(0));
        CHECKS.illegalArgument("3: gone twice", () -> disk.gone(1));
        disk.dispatch();
        due("3: no slice is left", -1, disk.count(6));
        disk.gone(0);
        due("3: all are gone", 0, disk.count(0));
        due("3: sectors anew", 0, disk.count(8));
        due("3: its requests stay served", 2, disk.state(0));
        due("3: and in the order", 0, disk.order(0));
        due("3: and are counted", 1, disk.count(2));
        CHECKS.illegalArgument("3: no tag", () -> disk.tag(0));
        CHECKS.illegalArgument("3: no submit", () -> disk.submit(0, false, 0, 1, 0));
    }

    private static void submitNumbers() {
        ShareDisk disk = new ShareDisk();
        disk.client(0, 1, 1);
        int[][] wrong = {{-1, 0, 1, 0}, {8, 0, 1, 0}, {1, 0, 1, 0}, {0, -1, 1, 0},
            {0, 100000, 1, 0}, {0, 99999, 2, 0}, {0, 99937, 64, 0}, {0, 0, 0, 0}, {0, 0, -1, 0},
            {0, 0, 65, 0}, {0, 0, 1, -1}, {0, 0, 1, 1000001}, {0, Integer.MAX_VALUE, 64, 0},
            {0, Integer.MIN_VALUE, 1, 0}, {0, 5, Integer.MAX_VALUE, 0},
            {0, 5, Integer.MIN_VALUE, 0}, {0, 0, 1, Integer.MIN_VALUE}};
        for (int[] row : wrong) {
            CHECKS.illegalArgument("4: submit " + row[0] + " " + row[1] + " " + row[2] + " "
                    + row[3], () -> disk.submit(row[0], true, row[1], row[2], row[3]));
        }
        due("4: nothing waits of these", 0, disk.count(1));
        due("4: first ticket", 0, disk.submit(0, true, 99999, 1, 1000000));
        due("4: second ticket", 1, disk.submit(0, false, 99936, 64, 0));
        due("4: third ticket", 2, disk.submit(0, false, 0, 64, 0));
        due("4: three wait", 3, disk.count(16));
    }

    private static void submitWhenFull() {
        ShareDisk disk = new ShareDisk();
        for (int id = 0; id < 8; id++) {
            disk.client(id, 1, 1);
        }
        for (int ticket = 0; ticket < 500; ticket++) {
            if (ticket == 64) {
                due("4: the 65th of a client", -1, read(disk, 0, 0, 1));
            }
            due("4: ticket", ticket, read(disk, ticket / 64, ticket, 1));
        }
        due("4: the 501st ticket", -1, read(disk, 7, 0, 1));
        CHECKS.illegalArgument("4: wrong numbers throw when full, too", () -> read(disk, 7, 0, 0));
        due("4: 500 wait", 500, disk.count(1));

        ShareDisk again = new ShareDisk();
        again.client(0, 1, 1);
        for (int i = 0; i < 64; i++) {
            read(again, 0, 0, 1);
        }
        due("4: 64 wait", -1, read(again, 0, 0, 1));
        due("4: one is served", 0, again.dispatch());
        due("4: 63 wait", 64, read(again, 0, 0, 1));
        due("4: 64 wait again", -1, read(again, 0, 0, 1));
    }

    private static void submitRaisesTag() {
        ShareDisk disk = new ShareDisk();
        disk.client(0, 1, 1);
        disk.client(1, 1, 1);
        disk.client(2, 12, 1);
        read(disk, 0, 0, 4);
        disk.dispatch();
        due("4: the system's tag", 4 * UNIT, disk.tag(8));
        due("4: not raised yet", 0, disk.tag(1));
        read(disk, 1, 0, 1);
        due("4: raised to the system's", 4 * UNIT, disk.tag(1));
        read(disk, 0, 0, 10);
        read(disk, 0, 0, 1);
        disk.dispatch();
        read(disk, 2, 0, 1);
        read(disk, 2, 0, 1);
        due("4: of the same tags the lowest client came first", 2, disk.state(2));
        due("4: the system's is the slice's", 4 * UNIT, disk.tag(8));
        disk.dispatch();
        disk.dispatch();
        disk.dispatch();
        due("4: system's", 4 * UNIT + UNIT / 12, disk.tag(8));
        due("4: one of which some wait keeps its tag", 14 * UNIT, disk.tag(0));
        read(disk, 0, 0, 1);
        due("4: still", 14 * UNIT, disk.tag(0));
    }

    private static void deadlines() {
        ShareDisk disk = new ShareDisk();
        disk.client(0, 1, 1);
        disk.client(1, 1, 1);
        disk.pass(50);
        read(disk, 0, 0, 1);
        disk.submit(1, false, 0, 1, 100);
        disk.pass(99);
        due("4: a tick before the deadline", 0, disk.dispatch());
        due("4: in a slice", 2, disk.state(0));
        due("4: one tick was taken by it", 150, disk.pass(0));
        due("4: at the deadline", 1, disk.dispatch());
        due("4: urgent", 3, disk.state(1));
    }

    private static void dispatchByTags() {
        ShareDisk disk = new ShareDisk();
        disk.client(5, 3, 1);
        disk.client(2, 1, 1);
        disk.client(4, 2, 1);
        int[] owners = {5, 5, 5, 5, 2, 2, 4, 4, 4};
        for (int i = 0; i < owners.length; i++) {
            due("5: ticket", i, read(disk, owners[i], 10 * i, 1));
        }
        // Tags by turns: 2 -> 27720; 4 -> 13860; 5 -> 9240; 5 -> 18480; 4 -> 27720; 5 -> 27720.
        int[] want = {4, 6, 0, 1, 7, 2, 5, 8, 3};
        for (int i = 0; i < want.length; i++) {
            due("5: dispatch " + i, want[i], disk.dispatch());
        }
        due("5: none waits", -1, disk.dispatch());
        due("5: tags are exact", 4 * UNIT / 3, disk.tag(5));
    }

    private static void dispatchAlongTheHead() {
        ShareDisk disk = new ShareDisk();
        disk.client(0, 1, 1000);
        read(disk, 0, 500, 10);
        read(disk, 0, 300, 10);
        read(disk, 0, 310, 5);
        read(disk, 0, 400, 1);
        read(disk, 0, 300, 1);
        read(disk, 0, 314, 1);
        int[] want = {1, 2, 3, 0, 4, 5};
        for (int i = 0; i < want.length; i++) {
            due("5: along the head " + i, want[i], disk.dispatch());
        }
        due("5: the head", 315, disk.count(4));
        due("5: way", 300 + 0 + 85 + 99 + 210 + 13, disk.count(5));
        due("5: each way is rounded down by itself", 3 + 0 + 0 + 0 + 2 + 0 + 28, disk.pass(0));
        read(disk, 0, 99999, 1);
        disk.dispatch();
        due("5: the head at the end of the disk", 100000, disk.count(4));
        read(disk, 0, 99999, 1);
        due("5: what lies below it all", 7, disk.dispatch());
        due("5: a way of one", 707 + 99684 + 1, disk.count(5));
    }

    private static void dispatchUrgent() {
        ShareDisk disk = new ShareDisk();
        disk.client(0, 1, 100);
        disk.client(1, 1, 100);
        disk.submit(0, false, 0, 1, 100);
        disk.submit(1, false, 500, 1, 80);
        disk.submit(0, false, 40, 1, 80);
        disk.submit(1, true, 70, 2, 90);
        disk.submit(1, false, 71, 1, 10);
        disk.pass(100);
        due("5: least deadline, lowest ticket", 1, disk.dispatch());
        due("5: then the next", 2, disk.dispatch());
        due("5: a blocked one is not urgent", 3, disk.dispatch());
        due("5: but when it is free", 4, disk.dispatch());
        due("5: the last", 0, disk.dispatch());
        due("5: all were urgent", 5, disk.count(3));
        due("5: no slice began", -1, disk.count(6));
        due("5: urgent ones grow tags", 2 * UNIT, disk.tag(0));
    }

    private static void sliceEnds() {
        ShareDisk disk = new ShareDisk();
        disk.client(0, 1, 10);
        disk.client(1, 1, 4);
        read(disk, 0, 0, 6);
        read(disk, 0, 10, 3);
        read(disk, 0, 20, 3);
        read(disk, 0, 30, 1);
        read(disk, 1, 40, 4);
        read(disk, 1, 50, 1);
        due("5: slice of 0", 0, disk.dispatch());
        due("5: has it", 0, disk.count(6));
        due("5: left", 4, disk.count(7));
        due("5: though its tag is greater", 1, disk.dispatch());
        due("5: left", 1, disk.count(7));
        due("5: more than is left", 2, disk.dispatch());
        due("5: ends below 0", -1, disk.count(6));
        due("5: nothing left", 0, disk.count(7));
        due("5: slice of 1", 4, disk.dispatch());
        due("5: ends at 0", -1, disk.count(6));
        due("5: anew", 5, disk.dispatch());
        due("5: ends without requests", -1, disk.count(6));
        due("5: and has nothing left", 0, disk.count(7));
        due("5: the last", 3, disk.dispatch());
    }

    private static void urgentAndSlice() {
        ShareDisk disk = new ShareDisk();
        disk.client(0, 1, 10);
        disk.client(1, 1, 10);
        read(disk, 0, 0, 2);
        read(disk, 0, 2, 2);
        read(disk, 0, 4, 2);
        due("5: a slice", 0, disk.dispatch());
        disk.submit(1, false, 200, 9, 0);
        due("5: another's urgent one", 3, disk.dispatch());
        due("5: leaves the slice", 0, disk.count(6));
        due("5: and what is left", 8, disk.count(7));
        disk.submit(0, false, 9, 3, 0);
        due("5: an urgent one of its own", 4, disk.dispatch());
        due("5: is taken from it", 5, disk.count(7));
        due("5: is urgent", 3, disk.state(4));
        disk.submit(0, false, 20, 5, 0);
        due("5: one more", 5, disk.dispatch());
        due("5: ends the slice", -1, disk.count(6));
        due("5: two wait", 2, disk.count(16));
        due("5: a new slice", 1, disk.dispatch());
        disk.submit(0, false, 4, 1, 0);
        due("5: urgent", 6, disk.dispatch());
        disk.pass(FAR);
        due("5: its last one, urgent", 2, disk.dispatch());
        due("5: ends the slice, too", -1, disk.count(6));
    }

    private static void systemTagWhenNoneWaits() {
        ShareDisk disk = new ShareDisk();
        disk.client(0, 1, 100);
        disk.client(1, 1, 1);
        disk.client(2, 1, 1);
        read(disk, 0, 0, 5);
        read(disk, 1, 0, 2);
        read(disk, 2, 0, 1);
        disk.dispatch();
        due("5: the slice's tag", 0, disk.tag(8));
        disk.gone(0);
        disk.dispatch();
        due("5: one waits still", 0, disk.tag(8));
        disk.dispatch();
        due("5: the greatest of those that are there", 2 * UNIT, disk.tag(8));
        disk.submit(2, false, 0, 1, 0);
        due("5: raised", 2 * UNIT, disk.tag(2));
        disk.dispatch();
        due("5: behind an urgent one, too", 3 * UNIT, disk.tag(8));
    }

    private static void pass() {
        ShareDisk disk = new ShareDisk();
        CHECKS.illegalArgument("6: pass -1", () -> disk.pass(-1));
        CHECKS.illegalArgument("6: pass 1000001", () -> disk.pass(1000001));
        CHECKS.illegalArgument("6: pass least", () -> disk.pass(Integer.MIN_VALUE));
        CHECKS.illegalArgument("6: pass most", () -> disk.pass(Integer.MAX_VALUE));
        due("6: pass 0", 0, disk.pass(0));
        due("6: pass 7", 7, disk.pass(7));
        due("6: pass 1000000", 1000007, disk.pass(1000000));
        disk.client(0, 1, 1);
        read(disk, 0, 250, 3);
        disk.dispatch();
        due("6: a service takes 2 and 3", 1000012, disk.pass(0));
    }

    private static void stateAndBlocked() {
        ShareDisk disk = new ShareDisk();
        disk.client(0, 1, 1000);
        disk.client(1, 1, 1000);
        write(disk, 0, 10, 5);
        read(disk, 0, 14, 1);
        read(disk, 0, 15, 5);
        read(disk, 0, 5, 5);
        read(disk, 0, 0, 20);
        read(disk, 1, 10, 5);
        read(disk, 0, 14, 2);
        write(disk, 0, 19, 1);
        int[] want = {1, 0, 1, 1, 0, 1, 0, 0};
        for (int ticket = 0; ticket < want.length; ticket++) {
            due("7: state " + ticket, want[ticket], disk.state(ticket));
        }
        CHECKS.outOfBounds("7: state -1", () -> disk.state(-1));
        CHECKS.outOfBounds("7: state 8", () -> disk.state(8));
        CHECKS.outOfBounds("7: state 500", () -> disk.state(500));
        CHECKS.outOfBounds("7: state least", () -> disk.state(Integer.MIN_VALUE));
        due("7: 3 is first along", 3, disk.dispatch());
        due("7: then the write", 0, disk.dispatch());
        due("7: served", 2, disk.state(0));
        due("7: free now", 1, disk.state(1));
        due("7: reads do not block reads", 1, disk.state(4));
        due("7: a read blocks a write", 0, disk.state(7));
        due("7: along", 2, disk.dispatch());
        due("7: one more blocks it", 0, disk.state(7));
        due("7: around", 4, disk.dispatch());
        due("7: free at last", 1, disk.state(7));
        disk.submit(1, true, 90, 1, 0);
        due("7: urgent", 8, disk.dispatch());
        due("7: as an urgent one", 3, disk.state(8));
        write(disk, 1, 90, 1);
        due("7: what was served blocks none", 1, disk.state(9));
        write(disk, 1, 90, 1);
        due("7: two writes", 0, disk.state(10));
    }

    private static void order() {
        ShareDisk disk = new ShareDisk();
        disk.client(0, 1, 1000);
        read(disk, 0, 30, 1);
        read(disk, 0, 20, 1);
        read(disk, 0, 10, 1);
        disk.dispatch();
        disk.dispatch();
        due("8: order 0", 2, disk.order(0));
        due("8: order 1", 1, disk.order(1));
        due("8: order 2", -1, disk.order(2));
        disk.dispatch();
        due("8: order 2 now", 0, disk.order(2));
        due("8: order 3", -1, disk.order(3));
        due("8: order -1", -1, disk.order(-1));
        due("8: order 500", -1, disk.order(500));
        due("8: order most", -1, disk.order(Integer.MAX_VALUE));
        due("8: order least", -1, disk.order(Integer.MIN_VALUE));
    }

    private static void tag() {
        ShareDisk disk = new ShareDisk();
        CHECKS.illegalArgument("9: tag -1", () -> disk.tag(-1));
        CHECKS.illegalArgument("9: tag 9", () -> disk.tag(9));
        CHECKS.illegalArgument("9: tag 0", () -> disk.tag(0));
        CHECKS.illegalArgument("9: tag most", () -> disk.tag(Integer.MAX_VALUE));
        for (int weight = 1; weight <= 12; weight++) {
            ShareDisk each = new ShareDisk();
            each.client(7, weight, 1);
            read(each, 7, 0, 61);
            each.dispatch();
            due("9: weight " + weight, 27720L * 61 / weight, each.tag(7));
            due("9: the system's", 27720L * 61 / weight, each.tag(8));
        }
    }

    private static void lag() {
        ShareDisk disk = new ShareDisk();
        disk.client(0, 1, 1);
        disk.client(1, 2, 1);
        CHECKS.illegalArgument("10: both are one", () -> disk.lag(0, 0));
        CHECKS.illegalArgument("10: a is not there", () -> disk.lag(2, 0));
        CHECKS.illegalArgument("10: b is not there", () -> disk.lag(0, 2));
        CHECKS.illegalArgument("10: -1", () -> disk.lag(-1, 0));
        CHECKS.illegalArgument("10: 8", () -> disk.lag(0, 8));
        CHECKS.illegalArgument("10: 8 and 8", () -> disk.lag(8, 8));
        due("10: none waits", 0, disk.lag(0, 1));
        for (int i = 0; i < 4; i++) {
            read(disk, 0, 10 * i, 3);
        }
        disk.dispatch();
        due("10: only one has some", 0, disk.lag(0, 1));
        for (int i = 0; i < 4; i++) {
            read(disk, 1, 10 * i, 4);
        }
        due("10: both have from now on", 0, disk.lag(0, 1));
        disk.dispatch();
        due("10: b was served", -2 * UNIT, disk.lag(0, 1));
        due("10: the other way round", 2 * UNIT, disk.lag(1, 0));
        disk.dispatch();
        due("10: again", -4 * UNIT, disk.lag(0, 1));
        disk.submit(0, false, 0, 1, 0);
        disk.dispatch();
        due("10: an urgent one counts", -3 * UNIT, disk.lag(0, 1));
        disk.client(1, 12, 1);
        disk.dispatch();
        due("10: by the weight of now", 0, disk.lag(0, 1));
    }

    private static void lagBeginsAnew() {
        ShareDisk disk = new ShareDisk();
        disk.client(0, 1, 1);
        disk.client(1, 1, 1);
        disk.client(2, 1, 1);
        read(disk, 0, 0, 1);
        read(disk, 0, 1, 1);
        read(disk, 0, 2, 1);
        read(disk, 1, 3, 5);
        read(disk, 2, 8, 2);
        read(disk, 2, 8, 3);
        due("10: 0 first", 0, disk.dispatch());
        due("10: 1 then", 3, disk.dispatch());
        due("10: the last one is served", 0, disk.lag(0, 1));
        due("10: the others go on", UNIT, disk.lag(0, 2));
        read(disk, 1, 3, 1);
        due("10: behind the gap it begins anew", 0, disk.lag(0, 1));
        due("10: from both sides", 0, disk.lag(1, 0));
        due("10: tag raised by none but services", 5 * UNIT, disk.tag(1));
        due("10: 2 then", 4, disk.dispatch());
        due("10: 0 and 2", -UNIT, disk.lag(0, 2));
        due("10: 1 and 2", -2 * UNIT, disk.lag(1, 2));
        disk.dispatch();
        due("10: 0 and 1", UNIT, disk.lag(0, 1));
    }

    private static void counts() {
        ShareDisk disk = new ShareDisk();
        disk.client(0, 1, 20);
        disk.client(7, 1, 20);
        read(disk, 0, 100, 8);
        read(disk, 0, 200, 8);
        disk.submit(7, true, 50, 2, 0);
        read(disk, 7, 60, 2);
        disk.dispatch();
        disk.dispatch();
        long[] want = {2, 2, 2, 1, 108, 50 + 48, 0, 12, 8, 0, 0, 0, 0, 0, 0, 2, 1, 0, 0, 0, 0, 0,
            0, 1};
        for (int what = 0; what < want.length; what++) {
            due("11: count " + what, want[what], disk.count(what));
        }
        int[] others = {-1, 24, 25, 100, Integer.MAX_VALUE, Integer.MIN_VALUE};
        for (int what : others) {
            due("11: count " + what, -1, disk.count(what));
        }
        disk.dispatch();
        disk.gone(0);
        due("11: gone", 0, disk.count(8));
        disk.client(0, 1, 20);
        due("11: anew", 0, disk.count(8));
        read(disk, 0, 0, 5);
        disk.dispatch();
        disk.dispatch();
        due("11: from 0 on", 5, disk.count(8));
        due("11: the other's", 4, disk.count(15));
        due("11: none waits", 0, disk.count(1));
        due("11: served", 5, disk.count(2));
    }

    private static void objectsAreApart() {
        ShareDisk one = new ShareDisk();
        ShareDisk two = new ShareDisk();
        one.client(0, 1, 1);
        one.pass(5);
        read(one, 0, 0, 1);
        due("1: another object has none", 0, two.count(0));
        due("1: nor requests", 0, two.count(1));
        due("1: nor its clock", 0, two.pass(0));
    }
}
