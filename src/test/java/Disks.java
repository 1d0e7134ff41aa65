/** Disks and requests that several tests use. */
final class Disks {
    static final int FAR = 1000000;
    static final long UNIT = 27720;
    static final int LEAST = Integer.MIN_VALUE;
    static final int MOST = Integer.MAX_VALUE;

    private Disks() {
    }

    static ShareDisk withClients(int budget, int... ids) {
        ShareDisk disk = new ShareDisk();
        for (int id : ids) {
            disk.client(id, 1, budget);
        }
        return disk;
    }

    /**
     * All 500 tickets wait: 64 of each of the clients 0 .. 6, 52 of client 7. No shorter run of
     * calls comes here; it has taken 508 calls, so that 4 are left.
     */
    static ShareDisk withAllTickets() {
        ShareDisk disk = withClients(1000, 0, 1, 2, 3, 4, 5, 6, 7);
        for (int ticket = 0; ticket < 500; ticket++) {
            read(disk, ticket / 64, ticket, 1);
        }
        return disk;
    }

    static int read(ShareDisk disk, int id, int sector, int count) {
        return disk.submit(id, false, sector, count, FAR);
    }

    static int write(ShareDisk disk, int id, int sector, int count) {
        return disk.submit(id, true, sector, count, FAR);
    }

    static int urgent(ShareDisk disk, int id, int sector, int count) {
        return disk.submit(id, false, sector, count, 0);
    }

    static int serve(ShareDisk disk, int id, int sector, int count) {
        read(disk, id, sector, count);
        return disk.dispatch();
    }
}
