/**
 * A disk that is shared by clients with weights: each gets slices of sectors in turn by exact
 * tags; within a slice requests are served as the head comes along, those whose deadline has come
 * go ahead of all, and what touches the same sectors keeps its order.
 */
public final class ShareDisk {
    public static final int NONE = -1;

    private static final int CLIENTS = 8;
    private static final int SYSTEM = 8;
    private static final int MOST_WEIGHT = 12;
    private static final int MOST_BUDGET = 1000;
    private static final int SECTORS = 100000;
    private static final int MOST_SECTORS = 64;
    private static final int MOST_PATIENCE = 1000000;
    private static final int MOST_PASS = 1000000;
    private static final int MOST_WAITING = 64;
    private static final int TICKETS = 500;
    private static final int SECTORS_PER_TICK = 100;
    /** All weights divide it, so that tags are exact. */
    private static final int TAG_UNIT = 27720;

    private static final int BLOCKED = 0;
    private static final int FREE = 1;
    private static final int SERVED_IN_SLICE = 2;
    private static final int SERVED_URGENT = 3;

    private final Clients clients;
    private final Requests requests;
    private long clock;
    private int head;
    private long passedOver;
    private long systemTag;
    private int sliceOwner;
    private int sliceLeft;

    public ShareDisk() {
        clients = new Clients();
        requests = new Requests();
        sliceOwner = NONE;
    }

    public void client(int id, int weight, int budget) throws IllegalArgumentException {
        if (!isWithin(id, 0, CLIENTS - 1) || !isWithin(weight, 1, MOST_WEIGHT)
                || !isWithin(budget, 1, MOST_BUDGET)) {
            throw new IllegalArgumentException();
        }
        if (!clients.isThere(id)) {
            clients.enter(id, systemTag);
        }
        clients.setShare(id, TAG_UNIT / weight, budget);
    }

    public void gone(int id) throws IllegalArgumentException, IllegalStateException {
        requireThere(id);
        if (clients.waitingOf(id) > 0) {
            throw new IllegalStateException();
        }
        clients.leave(id);
        if (sliceOwner == id) {
            endSlice();
        }
    }

    public int submit(int id, boolean write, int sector, int count, int patience)
            throws IllegalArgumentException {
        requireThere(id);
        if (!areOnDisk(sector, count) || !isWithin(patience, 0, MOST_PATIENCE)) {
            throw new IllegalArgumentException();
        }
        if (clients.waitingOf(id) >= MOST_WAITING || requests.isFull()) {
            return NONE;
        }
        clients.noteRequest(id, systemTag);
        return requests.add(id, write, sector, count, clock + patience);
    }

    public int dispatch() {
        int urgent = requests.mostUrgent(clock);
        if (urgent != NONE) {
            serve(urgent, SERVED_URGENT);
            return urgent;
        }
        if (sliceOwner == NONE) {
            beginSlice();
        }
        int next = requests.nextAlong(sliceOwner, head);
        if (next != NONE) {
            serve(next, SERVED_IN_SLICE);
        }
        return next;
    }

    public long pass(int n) throws IllegalArgumentException {
        if (!isWithin(n, 0, MOST_PASS)) {
            throw new IllegalArgumentException();
        }
        clock += n;
        return clock;
    }

    public int state(int ticket) throws IndexOutOfBoundsException {
        if (!requests.isTicket(ticket)) {
            throw new IndexOutOfBoundsException();
        }
        return requests.stateOf(ticket);
    }

    public int order(int i) {
        return requests.servedAt(i);
    }

    public long tag(int id) throws IllegalArgumentException {
        if (id == SYSTEM) {
            return systemTag;
        }
        requireThere(id);
        return clients.tagOf(id);
    }

    public long lag(int a, int b) throws IllegalArgumentException {
        requireThere(a);
        requireThere(b);
        if (a == b) {
            throw new IllegalArgumentException();
        }
        return clients.leadOf(a, b);
    }

    public long count(int what) {
        if (isWithin(what, 8, 15)) {
            return clients.sectorsOf(what - 8);
        }
        if (isWithin(what, 16, 23)) {
            return clients.waitingOf(what - 16);
        }
        return countOfDisk(what);
    }

    private long countOfDisk(int what) {
        switch (what) {
            case 0:
                return clients.howMany();
            case 1:
                return requests.waiting();
            case 2:
                return requests.served();
            case 3:
                return requests.urgent();
            case 4:
                return head;
            case 5:
                return passedOver;
            case 6:
                return sliceOwner;
            case 7:
                return sliceLeft;
            default:
                return NONE;
        }
    }

    private void requireThere(int id) {
        if (!isWithin(id, 0, CLIENTS - 1) || !clients.isThere(id)) {
            throw new IllegalArgumentException();
        }
    }

    private static boolean isWithin(int number, int least, int most) {
        return number >= least && number <= most;
    }

    private static boolean areOnDisk(int sector, int count) {
        return isWithin(count, 1, MOST_SECTORS) && isWithin(sector, 0, SECTORS - count);
    }

    private void beginSlice() {
        int owner = clients.nextInTurn();
        if (owner != NONE) {
            sliceOwner = owner;
            sliceLeft = clients.budgetOf(owner);
            systemTag = clients.tagOf(owner);
        }
    }

    private void endSlice() {
        sliceOwner = NONE;
        sliceLeft = 0;
    }

    private void serve(int ticket, int how) {
        int owner = requests.ownerOf(ticket);
        int size = requests.sizeOf(ticket);
        moveHead(requests.firstOf(ticket), size);
        requests.markServed(ticket, how);
        clients.noteService(owner, size);
        if (owner == sliceOwner) {
            takeFromSlice(size);
        }
        if (requests.waiting() == 0) {
            systemTag = clients.greatestTag(systemTag);
        }
    }

    private void moveHead(int first, int size) {
        int way = Math.abs(first - head);
        passedOver += way;
        clock += way / SECTORS_PER_TICK + size;
        head = first + size;
    }

    private void takeFromSlice(int size) {
        sliceLeft -= size;
        if (sliceLeft <= 0 || clients.waitingOf(sliceOwner) == 0) {
            endSlice();
        }
    }

    /** The clients, a row for each thing that is known of them. */
    private static final class Clients {
        private final boolean[] there = new boolean[CLIENTS];
        private final int[] sectorCost = new int[CLIENTS];
        private final int[] budget = new int[CLIENTS];
        private final long[] tag = new long[CLIENTS];
        private final int[] waiting = new int[CLIENTS];
        private final int[] sectors = new int[CLIENTS];
        /** Of each pair, by how much the first one's tag grew more; holds while both wait. */
        private final long[][] lead = new long[CLIENTS][CLIENTS];

        boolean isThere(int id) {
            return there[id];
        }

        int budgetOf(int id) {
            return budget[id];
        }

        long tagOf(int id) {
            return tag[id];
        }

        int waitingOf(int id) {
            return waiting[id];
        }

        int sectorsOf(int id) {
            return sectors[id];
        }

        void enter(int id, long systemTag) {
            there[id] = true;
            tag[id] = systemTag;
        }

        void setShare(int id, int newSectorCost, int newBudget) {
            sectorCost[id] = newSectorCost;
            budget[id] = newBudget;
        }

        void leave(int id) {
            there[id] = false;
            sectors[id] = 0;
        }

        int howMany() {
            int found = 0;
            for (int id = 0; id < CLIENTS; id++) {
                if (there[id]) {
                    found++;
                }
            }
            return found;
        }

        void noteRequest(int id, long systemTag) {
            if (waiting[id] == 0) {
                tag[id] = Math.max(tag[id], systemTag);
                forgetLead(id);
            }
            waiting[id]++;
        }

        private void forgetLead(int id) {
            for (int other = 0; other < CLIENTS; other++) {
                lead[id][other] = 0;
                lead[other][id] = 0;
            }
        }

        void noteService(int id, int size) {
            long growth = (long) sectorCost[id] * size;
            tag[id] += growth;
            sectors[id] += size;
            waiting[id]--;
            for (int other = 0; other < CLIENTS; other++) {
                lead[id][other] += growth;
                lead[other][id] -= growth;
            }
        }

        long leadOf(int a, int b) {
            return waiting[a] > 0 && waiting[b] > 0 ? lead[a][b] : 0;
        }

        int nextInTurn() {
            int best = NONE;
            for (int id = 0; id < CLIENTS; id++) {
                if (waiting[id] > 0 && (best == NONE || tag[id] < tag[best])) {
                    best = id;
                }
            }
            return best;
        }

        long greatestTag(long atLeast) {
            long greatest = atLeast;
            for (int id = 0; id < CLIENTS; id++) {
                if (there[id]) {
                    greatest = Math.max(greatest, tag[id]);
                }
            }
            return greatest;
        }
    }

    /** The requests by their tickets, and the order in which they were served. */
    private static final class Requests {
        private final int[] owner = new int[TICKETS];
        private final boolean[] write = new boolean[TICKETS];
        private final int[] first = new int[TICKETS];
        private final int[] size = new int[TICKETS];
        private final long[] deadline = new long[TICKETS];
        private final boolean[] waits = new boolean[TICKETS];
        /** How many that wait must be served before it: it is blocked until there is none. */
        private final int[] blockers = new int[TICKETS];
        private final int[] servedHow = new int[TICKETS];
        private final int[] servedOrder = new int[TICKETS];
        private int tickets;
        private int served;
        private int urgent;

        boolean isFull() {
            return tickets >= TICKETS;
        }

        boolean isTicket(int ticket) {
            return ticket >= 0 && ticket < tickets;
        }

        int ownerOf(int ticket) {
            return owner[ticket];
        }

        int firstOf(int ticket) {
            return first[ticket];
        }

        int sizeOf(int ticket) {
            return size[ticket];
        }

        int waiting() {
            return tickets - served;
        }

        int served() {
            return served;
        }

        int urgent() {
            return urgent;
        }

        int servedAt(int i) {
            return i >= 0 && i < served ? servedOrder[i] : NONE;
        }

        int stateOf(int ticket) {
            if (!waits[ticket]) {
                return servedHow[ticket];
            }
            return blockers[ticket] > 0 ? BLOCKED : FREE;
        }

        int add(int id, boolean isWrite, int sector, int count, long due) {
            int ticket = tickets;
            owner[ticket] = id;
            write[ticket] = isWrite;
            first[ticket] = sector;
            size[ticket] = count;
            deadline[ticket] = due;
            waits[ticket] = true;
            for (int earlier = 0; earlier < ticket; earlier++) {
                if (waits[earlier] && mustKeepOrder(earlier, ticket)) {
                    blockers[ticket]++;
                }
            }
            tickets++;
            return ticket;
        }

        void markServed(int ticket, int how) {
            waits[ticket] = false;
            servedHow[ticket] = how;
            servedOrder[served] = ticket;
            served++;
            if (how == SERVED_URGENT) {
                urgent++;
            }
            for (int later = ticket + 1; later < tickets; later++) {
                if (mustKeepOrder(ticket, later)) {
                    blockers[later]--;
                }
            }
        }

        private boolean mustKeepOrder(int a, int b) {
            return owner[a] == owner[b] && (write[a] || write[b])
                    && first[a] < first[b] + size[b] && first[b] < first[a] + size[a];
        }

        int mostUrgent(long clock) {
            int best = NONE;
            for (int ticket = 0; ticket < tickets; ticket++) {
                if (stateOf(ticket) == FREE && deadline[ticket] <= clock
                        && (best == NONE || deadline[ticket] < deadline[best])) {
                    best = ticket;
                }
            }
            return best;
        }

        int nextAlong(int id, int head) {
            int best = NONE;
            for (int ticket = 0; ticket < tickets; ticket++) {
                if (stateOf(ticket) == FREE && owner[ticket] == id
                        && (best == NONE || turnOf(ticket, head) < turnOf(best, head))) {
                    best = ticket;
                }
            }
            return best;
        }

        /** Puts what lies below the head behind all that the head still comes along. */
        private int turnOf(int ticket, int head) {
            return first[ticket] >= head ? first[ticket] : first[ticket] + SECTORS;
        }
    }
}
