/** Each sentence of the document's 'Terms' that names an edge: what lies on both sides of it. */
final class TermsEdgesTest {
    private static final long UNIT = Disks.UNIT;
    private static final int LEAST = Disks.LEAST;
    private static final int MOST = Disks.MOST;
    private static final Checks CHECKS = new Checks("TermsEdgesTest");

    public static void main(String[] args) {
        clients();
        weight();
        budget();
        firstSector();
        allSectorsOnTheDisk();
        countOfSectors();
        clockAndHeadAtFirst();
        tickets();
        waitsTillServed();
        blockedByASharedSector();
        blockedAtTheEndsOfTheDisk();
        blockedByOneWrite();
        blockedByTheSameClient();
        blockedByALowerTicket();
        blockedWhileTheOtherWaits();
        tagsAtFirst();
        tagOfAClientToldAnew();
        tagWhenNoneWaited();
        tagWhenOneWaited();
        tagGrows();
        deadlineAboveTheClock();
        leastDeadline();
        sameDeadline();
        blockedIsNotUrgent();
        urgentCountsToTheSlice();
        leastTag();
        sameTag();
        sliceNeedsARequest();
        systemsTagAtASlice();
        notBelowTheHead();
        aroundTheDisk();
        sameSector();
        blockedIsPassedOver();
        wayOnTheClock();
        headBehindTheLastSector();
        sliceEndsAtZero();
        sliceEndsWithoutRequests();
        noneWaitsAtAll();
        CHECKS.end();
    }

    private static void due(String what, long want, long got) {
        CHECKS.due(what, want, got);
    }

    private static void clients() {
        CHECKS.begin("CLIENTS are 0 .. 7");
        for (int id : new int[] {-1, 8, 9, LEAST, MOST}) {
            ShareDisk disk = new ShareDisk();
            CHECKS.illegalArgument("client " + id, () -> disk.client(id, 1, 1));
            due("clients behind client " + id, 0, disk.count(0));
        }
        for (int id : new int[] {0, 7}) {
            ShareDisk disk = Disks.withClients(1, id);
            due("clients behind client " + id, 1, disk.count(0));
            due("its request", 0, Disks.serve(disk, id, 0, 1));
            due("its sectors", 1, disk.count(8 + id));
            due("its tag", UNIT, disk.tag(id));
        }
        due("all of them", 8, Disks.withClients(1, 0, 1, 2, 3, 4, 5, 6, 7).count(0));
    }

    private static void weight() {
        CHECKS.begin("a WEIGHT 1 .. 12");
        for (int weight : new int[] {0, 13, -1, LEAST, MOST}) {
            ShareDisk disk = new ShareDisk();
            CHECKS.illegalArgument("weight " + weight, () -> disk.client(0, weight, 1));
            due("clients behind weight " + weight, 0, disk.count(0));
        }
        for (int weight : new int[] {1, 12}) {
            ShareDisk disk = new ShareDisk();
            disk.client(0, weight, 1);
            due("clients behind weight " + weight, 1, disk.count(0));
        }
    }

    private static void budget() {
        CHECKS.begin("a BUDGET 1 .. 1000");
        for (int budget : new int[] {0, 1001, -1, LEAST, MOST}) {
            ShareDisk disk = new ShareDisk();
            CHECKS.illegalArgument("budget " + budget, () -> disk.client(0, 1, budget));
            due("clients behind budget " + budget, 0, disk.count(0));
        }
        int[][] leftOf = {{1, 0}, {2, 1}, {999, 998}, {1000, 999}};
        for (int[] row : leftOf) {
            ShareDisk disk = Disks.withClients(row[0], 0);
            Disks.read(disk, 0, 0, 1);
            Disks.read(disk, 0, 1, 1);
            disk.dispatch();
            due("left of " + row[0], row[1], disk.count(7));
        }
    }

    private static void firstSector() {
        CHECKS.begin("SECTORS are 0 .. 99999");
        ShareDisk disk = Disks.withClients(1, 0);
        for (int sector : new int[] {-1, 100000, -64, LEAST, MOST}) {
            CHECKS.illegalArgument("sector " + sector, () -> Disks.read(disk, 0, sector, 1));
        }
        due("sector 0", 0, Disks.read(disk, 0, 0, 1));
        due("sector 99999", 1, Disks.read(disk, 0, 99999, 1));
    }

    private static void allSectorsOnTheDisk() {
        CHECKS.begin("a count 1 .. 64 of sectors (all on the disk)");
        for (int count : new int[] {1, 2, 3, 63, 64}) {
            ShareDisk disk = Disks.withClients(1, 0);
            int last = 100000 - count;
            CHECKS.illegalArgument(count + " from " + (last + 1),
                    () -> Disks.read(disk, 0, last + 1, count));
            CHECKS.illegalArgument(count + " from 99999, or behind it",
                    () -> Disks.read(disk, 0, Math.max(last + 1, 99999), count));
            CHECKS.illegalArgument(count + " from -1", () -> Disks.read(disk, 0, -1, count));
            CHECKS.illegalArgument(count + " from " + -count,
                    () -> Disks.read(disk, 0, -count, count));
            due(count + " from " + last, 0, Disks.read(disk, 0, last, count));
            due(count + " from 0", 1, Disks.read(disk, 0, 0, count));
        }
        ShareDisk disk = Disks.withClients(1, 0);
        CHECKS.illegalArgument("a sum that wraps round", () -> Disks.read(disk, 0, MOST, 64));
        CHECKS.illegalArgument("just so", () -> Disks.read(disk, 0, MOST - 63, 64));
        CHECKS.illegalArgument("just not", () -> Disks.read(disk, 0, MOST - 64, 64));
    }

    private static void countOfSectors() {
        CHECKS.begin("a count 1 .. 64 of sectors");
        ShareDisk disk = Disks.withClients(1, 0);
        for (int count : new int[] {0, 65, -1, LEAST, MOST}) {
            CHECKS.illegalArgument("count " + count, () -> Disks.read(disk, 0, 5, count));
        }
        due("count 1", 0, Disks.serve(disk, 0, 5, 1));
        due("sectors of count 1", 1, disk.count(8));
        due("count 64", 1, Disks.serve(disk, 0, 5, 64));
        due("sectors of both", 65, disk.count(8));
    }

    private static void clockAndHeadAtFirst() {
        CHECKS.begin("The CLOCK is 0 at first, the HEAD stands at sector 0");
        ShareDisk disk = Disks.withClients(1, 0);
        due("the clock", 0, disk.pass(0));
        due("the head", 0, disk.count(4));
        Disks.serve(disk, 0, 0, 1);
        due("no way to sector 0", 0, disk.count(5));
        due("and no time for it", 1, disk.pass(0));
    }

    private static void tickets() {
        CHECKS.begin("REQUESTS get TICKETS 0, 1, ..");
        ShareDisk disk = Disks.withClients(1, 0, 7);
        due("the first", 0, Disks.read(disk, 7, 5, 1));
        CHECKS.illegalArgument("a wrong one", () -> Disks.read(disk, 7, 5, 0));
        due("gets none: the next", 1, Disks.read(disk, 0, 5, 1));
        for (int i = 0; i < 63; i++) {
            Disks.read(disk, 0, 5, 1);
        }
        due("one too many", -1, Disks.read(disk, 0, 5, 1));
        due("gets none, too", 65, Disks.read(disk, 7, 5, 1));
        disk.dispatch();
        due("a ticket comes once", 66, Disks.read(disk, 7, 5, 1));
    }

    private static void waitsTillServed() {
        CHECKS.begin("It WAITS till it is SERVED");
        ShareDisk disk = Disks.withClients(1, 0);
        Disks.read(disk, 0, 5, 1);
        disk.pass(Disks.FAR);
        disk.pass(Disks.FAR);
        due("though its deadline is over", 1, disk.state(0));
        due("it is counted", 1, disk.count(1));
        due("it is served", 0, disk.dispatch());
        due("none waits then", 0, disk.count(1));
        due("nor of its client", 0, disk.count(16));
    }

    private static void blockedByASharedSector() {
        CHECKS.begin("BLOCKED while a request .. waits that has a sector of it, too");
        due("behind its last sector", 1, stateBehind(20, 4, 24, 1));
        due("on its last sector", 0, stateBehind(20, 4, 23, 1));
        due("on its first sector", 0, stateBehind(20, 4, 20, 1));
        due("below its first sector", 1, stateBehind(20, 4, 19, 1));
        due("up to its first sector", 0, stateBehind(20, 4, 19, 2));
        for (int first = 0; first < 30; first++) {
            for (int count = 1; count < 12; count++) {
                boolean shares = false;
                for (int sector = first; sector < first + count; sector++) {
                    shares |= sector == 20 || sector == 21 || sector == 22 || sector == 23;
                }
                due(count + " from " + first, shares ? 0 : 1, stateBehind(20, 4, first, count));
                due(count + " before", shares ? 0 : 1, stateBehind(first, count, 20, 4));
            }
        }
    }

    private static void blockedAtTheEndsOfTheDisk() {
        CHECKS.begin("has a sector of it, too: at the disk's ends");
        due("64 to the last", 0, stateBehind(99999, 1, 99936, 64));
        due("63 to the last but one", 1, stateBehind(99999, 1, 99936, 63));
        due("the last alone", 0, stateBehind(99936, 64, 99999, 1));
        due("the first alone", 0, stateBehind(0, 64, 0, 1));
        due("behind the first 64", 1, stateBehind(0, 64, 64, 1));
        due("the first is not the last", 1, stateBehind(0, 1, 99999, 1));
        due("nor the other way round", 1, stateBehind(99999, 1, 0, 1));
    }

    private static int stateBehind(int first, int count, int laterFirst, int laterCount) {
        ShareDisk disk = Disks.withClients(1, 0);
        Disks.write(disk, 0, first, count);
        return disk.state(Disks.read(disk, 0, laterFirst, laterCount));
    }

    private static void blockedByOneWrite() {
        CHECKS.begin("one of both being a write");
        boolean[] kinds = {false, true};
        for (boolean earlier : kinds) {
            for (boolean later : kinds) {
                ShareDisk disk = Disks.withClients(1, 0);
                disk.submit(0, earlier, 5, 1, 9);
                disk.submit(0, later, 5, 1, 9);
                due("writes " + earlier + ", " + later, earlier || later ? 0 : 1, disk.state(1));
                due("the first of them", 1, disk.state(0));
            }
        }
    }

    private static void blockedByTheSameClient() {
        CHECKS.begin("BLOCKED while a request of the same client ..");
        ShareDisk disk = Disks.withClients(1, 0, 1);
        Disks.write(disk, 0, 5, 1);
        Disks.write(disk, 1, 5, 1);
        due("another client's", 1, disk.state(1));
        Disks.write(disk, 1, 5, 1);
        due("its own", 0, disk.state(2));
    }

    private static void blockedByALowerTicket() {
        CHECKS.begin("BLOCKED while a request .. with a lower ticket waits");
        ShareDisk disk = Disks.withClients(1, 0);
        Disks.write(disk, 0, 5, 1);
        Disks.write(disk, 0, 5, 1);
        Disks.write(disk, 0, 5, 1);
        due("the lowest", 1, disk.state(0));
        due("the next", 0, disk.state(1));
        due("the last", 0, disk.state(2));
    }

    private static void blockedWhileTheOtherWaits() {
        CHECKS.begin("One that waits is BLOCKED while a request .. waits");
        ShareDisk disk = Disks.withClients(1000, 0);
        Disks.write(disk, 0, 5, 10);
        Disks.write(disk, 0, 14, 10);
        Disks.read(disk, 0, 23, 1);
        Disks.read(disk, 0, 5, 19);
        due("by one that is blocked itself", 0, disk.state(2));
        disk.dispatch();
        due("free behind the first", 1, disk.state(1));
        due("the second waits still", 0, disk.state(2));
        due("one of two is left", 0, disk.state(3));
        disk.dispatch();
        due("free behind the second", 1, disk.state(2));
        due("none of two is left", 1, disk.state(3));
        due("one that came later to what was served", 1, disk.state(Disks.read(disk, 0, 5, 1)));
    }

    private static void tagsAtFirst() {
        CHECKS.begin("all are 0 at first");
        ShareDisk disk = Disks.withClients(1, 0, 1, 2, 3, 4, 5, 6, 7);
        for (int id = 0; id <= 8; id++) {
            due("tag " + id, 0, disk.tag(id));
        }
    }

    private static void tagOfAClientToldAnew() {
        CHECKS.begin("a client that is told anew begins with the system's");
        ShareDisk disk = Disks.withClients(1, 0);
        Disks.serve(disk, 0, 0, 3);
        disk.client(1, 12, 1);
        due("one that never was there", 3 * UNIT, disk.tag(1));
        Disks.read(disk, 0, 0, 50);
        Disks.read(disk, 0, 0, 50);
        Disks.read(disk, 1, 0, 1);
        disk.dispatch();
        disk.dispatch();
        due("1 has grown", 3 * UNIT + UNIT / 12, disk.tag(1));
        disk.gone(1);
        disk.client(1, 12, 1);
        due("begins below its old one", 3 * UNIT, disk.tag(1));
        disk.dispatch();
        due("the system's goes on", 103 * UNIT, disk.tag(8));
        disk.gone(1);
        disk.client(1, 12, 1);
        due("begins above its old one", 103 * UNIT, disk.tag(1));
    }

    private static void tagWhenNoneWaited() {
        CHECKS.begin("When a request comes to a client of which none waits, its tag becomes the"
                + " greater one of it and the system's");
        ShareDisk disk = Disks.withClients(1, 0, 1, 2);
        Disks.serve(disk, 0, 0, 5);
        due("less than the system's", 0, disk.tag(1));
        Disks.read(disk, 1, 0, 1);
        due("becomes the system's", 5 * UNIT, disk.tag(1));
        Disks.read(disk, 0, 0, 2);
        due("the same stays", 5 * UNIT, disk.tag(0));
        disk.dispatch();
        due("has grown", 7 * UNIT, disk.tag(0));
        due("the system's has not", 5 * UNIT, disk.tag(8));
        Disks.read(disk, 0, 0, 1);
        due("greater than the system's stays", 7 * UNIT, disk.tag(0));
        due("the system's stays", 5 * UNIT, disk.tag(8));
        due("another's stays", 0, disk.tag(2));
    }

    private static void tagWhenOneWaited() {
        CHECKS.begin("a client of which none waits");
        ShareDisk disk = Disks.withClients(1, 0, 1);
        Disks.read(disk, 0, 0, 1);
        Disks.read(disk, 1, 0, 1);
        Disks.read(disk, 1, 0, 1);
        Disks.read(disk, 1, 0, 1);
        disk.dispatch();
        disk.dispatch();
        disk.dispatch();
        due("the system's at the last slice", UNIT, disk.tag(8));
        due("one waits", 1, disk.count(17));
        Disks.read(disk, 1, 0, 1);
        due("its tag stays", 2 * UNIT, disk.tag(1));
    }

    private static void tagGrows() {
        CHECKS.begin("its tag grows by 27720 * count / weight");
        for (int weight = 1; weight <= 12; weight++) {
            ShareDisk disk = new ShareDisk();
            disk.client(0, weight, 1);
            Disks.serve(disk, 0, 0, 1);
            due("a sector by weight " + weight, UNIT / weight, disk.tag(0));
            Disks.serve(disk, 0, 0, 64);
            due("64 more", 65 * (UNIT / weight), disk.tag(0));
            Disks.urgent(disk, 0, 0, 64);
            disk.dispatch();
            due("64 urgent ones", 129 * (UNIT / weight), disk.tag(0));
        }
    }

    private static void deadlineAboveTheClock() {
        CHECKS.begin("whose deadline is not above the clock");
        int[] patiences = {0, 1, 2, 1000, 999999, 1000000};
        for (int patience : patiences) {
            if (patience > 0) {
                due(patience + ": a tick before", 2, stateServedAfter(patience, patience - 1));
            }
            due(patience + ": just then", 3, stateServedAfter(patience, patience));
            if (patience < 1000000) {
                due(patience + ": a tick behind", 3, stateServedAfter(patience, patience + 1));
            }
        }
    }

    private static int stateServedAfter(int patience, int passed) {
        ShareDisk disk = Disks.withClients(1, 0);
        disk.pass(77);
        disk.submit(0, false, 0, 1, patience);
        disk.pass(passed);
        disk.dispatch();
        return disk.state(0);
    }

    private static void leastDeadline() {
        CHECKS.begin("the one with the least deadline is served");
        ShareDisk disk = Disks.withClients(1000, 0, 1);
        disk.submit(0, false, 0, 1, 11);
        disk.submit(1, false, 500, 1, 10);
        disk.submit(0, false, 0, 1, 9);
        disk.pass(11);
        due("the least", 2, disk.dispatch());
        due("the next by one", 1, disk.dispatch());
        due("the last", 0, disk.dispatch());
        due("all urgent", 3, disk.count(3));
    }

    private static void sameDeadline() {
        CHECKS.begin("of these that with the lowest ticket");
        ShareDisk disk = Disks.withClients(1000, 0, 1);
        disk.submit(1, false, 500, 1, 10);
        disk.pass(4);
        disk.submit(0, false, 0, 1, 6);
        disk.pass(6);
        due("not the lowest client, nor the nearest", 0, disk.dispatch());
        due("then the other", 1, disk.dispatch());
    }

    private static void blockedIsNotUrgent() {
        CHECKS.begin("Of all requests that wait, are not blocked, and whose deadline ..");
        ShareDisk disk = Disks.withClients(1000, 0, 1);
        Disks.write(disk, 0, 500, 2);
        disk.submit(0, false, 501, 1, 0);
        Disks.read(disk, 0, 10, 1);
        due("no urgent one: along the head", 2, disk.dispatch());
        due("what blocks it", 0, disk.dispatch());
        due("is in the slice", 2, disk.state(0));
        due("free now", 1, disk.dispatch());
        due("and urgent", 3, disk.state(1));
    }

    private static void urgentCountsToTheSlice() {
        CHECKS.begin("it is URGENT (and counts to the slice, if that is its client's)");
        for (int own = 0; own <= 1; own++) {
            ShareDisk disk = Disks.withClients(10, 0, 1);
            Disks.read(disk, 0, 0, 1);
            Disks.read(disk, 0, 1, 1);
            disk.dispatch();
            Disks.urgent(disk, 1 - own, 50, 8);
            disk.dispatch();
            due("has the slice, own " + own, 0, disk.count(6));
            due("left of it, own " + own, own == 1 ? 1 : 9, disk.count(7));
            Disks.urgent(disk, 1 - own, 50, 1);
            disk.dispatch();
            due("has it now, own " + own, own == 1 ? -1 : 0, disk.count(6));
        }
        ShareDisk disk = Disks.withClients(10, 0, 1);
        Disks.urgent(disk, 1, 50, 8);
        Disks.read(disk, 1, 50, 8);
        disk.dispatch();
        due("an urgent one begins no slice", -1, disk.count(6));
        due("nor changes the system's tag", 0, disk.tag(8));
    }

    private static void leastTag() {
        CHECKS.begin("of the clients of which a request waits that with the least tag");
        ShareDisk disk = new ShareDisk();
        disk.client(0, 11, 1);
        disk.client(1, 12, 1);
        for (int i = 0; i < 26; i++) {
            Disks.read(disk, i % 2, i, 1);
        }
        // By n sectors the tags are 2520 n and 2310 n: 210 less is less, and both are the same
        // only when 0 has had 11 sectors and 1 has had 12.
        int[] turns = {0, 1, 1, 0, 1, 0, 1, 0, 1, 0, 1, 0, 1, 0, 1, 0, 1, 0, 1, 0, 1, 0, 1, 0, 1,
            0};
        for (int i = 0; i < turns.length; i++) {
            due("turn " + i, turns[i], disk.dispatch() % 2);
        }
    }

    private static void sameTag() {
        CHECKS.begin("of these the lowest");
        ShareDisk disk = Disks.withClients(1, 7, 3, 5);
        Disks.read(disk, 7, 0, 1);
        Disks.read(disk, 5, 1, 1);
        Disks.read(disk, 3, 2, 1);
        due("3", 2, disk.dispatch());
        due("5", 1, disk.dispatch());
        due("7", 0, disk.dispatch());
    }

    private static void sliceNeedsARequest() {
        CHECKS.begin("the clients of which a request waits");
        ShareDisk disk = Disks.withClients(5, 0, 1, 2);
        Disks.read(disk, 1, 0, 1);
        Disks.read(disk, 1, 1, 1);
        due("not the lower one without", 0, disk.dispatch());
        due("the slice", 1, disk.count(6));
        disk.dispatch();
        Disks.read(disk, 1, 1, 1);
        due("not the lesser tags", 0, disk.tag(0));
        due("of those without", 2, disk.dispatch());
    }

    private static void systemsTagAtASlice() {
        CHECKS.begin("the system's tag becomes this client's");
        ShareDisk disk = Disks.withClients(2, 0);
        for (int i = 0; i < 5; i++) {
            Disks.read(disk, 0, i, 1);
        }
        long[] want = {0, 0, 2, 2, 5};
        for (int i = 0; i < want.length; i++) {
            disk.dispatch();
            due("behind service " + i, want[i] * UNIT, disk.tag(8));
        }
    }

    private static void notBelowTheHead() {
        CHECKS.begin("whose first sector is the least of those not below the head");
        ShareDisk disk = Disks.withClients(1000, 0);
        Disks.serve(disk, 0, 99, 1);
        due("the head", 100, disk.count(4));
        Disks.read(disk, 0, 99, 1);
        Disks.read(disk, 0, 102, 1);
        Disks.read(disk, 0, 101, 1);
        Disks.read(disk, 0, 100, 1);
        due("at the head", 4, disk.dispatch());
        due("the least above", 3, disk.dispatch());
        due("the next", 2, disk.dispatch());
        due("just below", 1, disk.dispatch());
        ShareDisk begun = Disks.withClients(1000, 0);
        Disks.read(begun, 0, 1, 1);
        Disks.read(begun, 0, 0, 1);
        due("sector 0 is not below the head of a new disk", 1, begun.dispatch());
    }

    private static void aroundTheDisk() {
        CHECKS.begin("without such a one the least of all");
        ShareDisk disk = Disks.withClients(1000, 0);
        Disks.serve(disk, 0, 99, 1);
        Disks.read(disk, 0, 99, 1);
        Disks.read(disk, 0, 0, 1);
        Disks.read(disk, 0, 50, 1);
        due("the least, not the nearest", 2, disk.dispatch());
        due("up again", 3, disk.dispatch());
        due("up again to the last", 1, disk.dispatch());
        Disks.serve(disk, 0, 99999, 1);
        due("the head behind all", 100000, disk.count(4));
        Disks.read(disk, 0, 99999, 1);
        Disks.read(disk, 0, 1, 1);
        due("round from the end", 6, disk.dispatch());
        due("up to the end", 5, disk.dispatch());
        ShareDisk last = Disks.withClients(1000, 0);
        Disks.serve(last, 0, 99998, 1);
        Disks.read(last, 0, 0, 1);
        Disks.read(last, 0, 99999, 1);
        due("the last sector is not below 99999", 2, last.dispatch());
    }

    private static void sameSector() {
        CHECKS.begin("of the same sector that with the lowest ticket");
        ShareDisk disk = Disks.withClients(1000, 0);
        Disks.serve(disk, 0, 99, 1);
        Disks.read(disk, 0, 200, 64);
        Disks.read(disk, 0, 200, 1);
        Disks.read(disk, 0, 10, 3);
        Disks.read(disk, 0, 10, 1);
        due("above the head", 1, disk.dispatch());
        due("below it", 3, disk.dispatch());
        due("above it again", 2, disk.dispatch());
        due("the last", 4, disk.dispatch());
    }

    private static void blockedIsPassedOver() {
        CHECKS.begin("Of the client's requests that wait and are not blocked");
        ShareDisk disk = Disks.withClients(1000, 0);
        Disks.write(disk, 0, 50, 10);
        Disks.read(disk, 0, 45, 10);
        due("45 is blocked", 0, disk.dispatch());
        due("45 is free", 1, disk.dispatch());
        ShareDisk wrapped = Disks.withClients(1000, 0);
        Disks.serve(wrapped, 0, 99, 1);
        Disks.write(wrapped, 0, 50, 10);
        Disks.read(wrapped, 0, 45, 10);
        due("the least of all is blocked", 1, wrapped.dispatch());
        due("it is free now", 2, wrapped.dispatch());
    }

    private static void wayOnTheClock() {
        CHECKS.begin("takes |first sector - head| / 100 (rounded down) and its count on the clock");
        int[][] upwards = {{0, 0}, {1, 0}, {99, 0}, {100, 1}, {101, 1}, {199, 1}, {200, 2},
            {99899, 998}, {99900, 999}, {99999, 999}};
        for (int[] row : upwards) {
            ShareDisk disk = Disks.withClients(1, 0);
            Disks.serve(disk, 0, row[0], 1);
            due("up to " + row[0], row[1] + 1, disk.pass(0));
            due("way up to " + row[0], row[0], disk.count(5));
        }
        int[][] downwards = {{99999, 0}, {99901, 0}, {99900, 1}, {99801, 1}, {99800, 2},
            {1, 999}, {0, 1000}};
        for (int[] row : downwards) {
            ShareDisk disk = Disks.withClients(1, 0);
            Disks.serve(disk, 0, 99936, 64);
            due("999 and 64", 1063, disk.pass(0));
            Disks.serve(disk, 0, row[0], 1);
            due("down to " + row[0], 1063 + row[1] + 1, disk.pass(0));
            due("way down to " + row[0], 99936 + 100000 - row[0], disk.count(5));
        }
    }

    private static void headBehindTheLastSector() {
        CHECKS.begin("the head stands behind its last sector then (100000 at most)");
        int[][] rows = {{0, 1}, {0, 64}, {63, 1}, {99998, 1}, {99999, 1}, {99936, 64},
            {99935, 64}};
        for (int[] row : rows) {
            ShareDisk disk = Disks.withClients(1, 0);
            Disks.serve(disk, 0, row[0], row[1]);
            due("behind " + row[1] + " from " + row[0], row[0] + row[1], disk.count(4));
        }
    }

    private static void sliceEndsAtZero() {
        CHECKS.begin("Its count is taken from the slice: at 0 or below .. the slice ends");
        int[][] leftBehind = {{9, 0, 1}, {10, -1, 0}, {11, -1, 0}, {64, -1, 0}};
        for (int[] row : leftBehind) {
            ShareDisk disk = Disks.withClients(10, 0, 1);
            Disks.read(disk, 0, 0, row[0]);
            Disks.read(disk, 0, 64, 1);
            Disks.read(disk, 1, 64, 1);
            disk.dispatch();
            due("has the slice behind " + row[0], row[1], disk.count(6));
            due("left behind " + row[0], row[2], disk.count(7));
            due("the next behind " + row[0], row[0] < 10 ? 1 : 2, disk.dispatch());
        }
        ShareDisk disk = Disks.withClients(1000, 0, 1);
        for (int i = 0; i < 15; i++) {
            Disks.read(disk, 0, 64 * i, 64);
        }
        Disks.read(disk, 0, 960, 39);
        Disks.read(disk, 0, 999, 1);
        Disks.read(disk, 0, 1000, 1);
        Disks.read(disk, 1, 1000, 1);
        for (int i = 0; i < 16; i++) {
            due("of 1000", i, disk.dispatch());
        }
        due("999 are taken", 1, disk.count(7));
        due("the last of them", 16, disk.dispatch());
        due("1000 are taken", -1, disk.count(6));
        due("another's turn", 18, disk.dispatch());
    }

    private static void sliceEndsWithoutRequests() {
        CHECKS.begin("or when no request of its client waits any more, the slice ends");
        ShareDisk disk = Disks.withClients(10, 0, 1);
        Disks.read(disk, 0, 0, 1);
        Disks.read(disk, 0, 1, 1);
        Disks.read(disk, 1, 2, 1);
        Disks.read(disk, 1, 3, 1);
        disk.dispatch();
        due("one waits", 0, disk.count(6));
        disk.dispatch();
        due("none waits", -1, disk.count(6));
        due("none is left", 0, disk.count(7));
        Disks.read(disk, 0, 0, 1);
        due("it does not go on", 2, disk.dispatch());
        due("the other's", 1, disk.count(6));
        disk.pass(Disks.FAR);
        due("its last one has the least deadline", 3, disk.dispatch());
        due("is urgent", 3, disk.state(3));
        due("and ends the slice, too", -1, disk.count(6));
    }

    private static void noneWaitsAtAll() {
        CHECKS.begin("When none waits at all, the system's tag becomes the greatest of all"
                + " clients' and its own");
        ShareDisk disk = Disks.withClients(64, 0, 1, 2);
        Disks.read(disk, 1, 0, 40);
        Disks.read(disk, 2, 40, 1);
        disk.dispatch();
        due("one waits", 0, disk.tag(8));
        disk.dispatch();
        due("none waits: not the tag of the one served last", 40 * UNIT, disk.tag(8));
        due("the others stay", UNIT, disk.tag(2));
        due("all of them", 0, disk.tag(0));
        Disks.read(disk, 1, 0, 1);
        due("one waits again: it stays", 40 * UNIT, disk.tag(8));
        disk.dispatch();
        due("none again", 41 * UNIT, disk.tag(8));
        due("none to serve", -1, disk.dispatch());
        due("changes nothing", 41 * UNIT, disk.tag(8));
        Disks.urgent(disk, 0, 0, 2);
        disk.dispatch();
        due("an urgent one as the last", 43 * UNIT, disk.tag(8));
        Disks.read(disk, 2, 0, 3);
        Disks.read(disk, 1, 0, 1);
        disk.dispatch();
        due("1 is served first, by 44", 44 * UNIT, disk.tag(1));
        disk.dispatch();
        due("then 2, by 46", 46 * UNIT, disk.tag(2));
        due("the system's", 46 * UNIT, disk.tag(8));
        disk.gone(2);
        due("one that is gone leaves the system's", 46 * UNIT, disk.tag(8));

        ShareDisk left = Disks.withClients(64, 0, 1);
        Disks.read(left, 0, 0, 50);
        Disks.read(left, 1, 50, 1);
        left.dispatch();
        left.gone(0);
        left.dispatch();
        due("one that is gone has no tag", UNIT, left.tag(8));
    }
}
