import java.util.ArrayList;
import java.util.List;

/**
 * The document's words, told a second time without any care for speed, so that long runs of
 * ShareDisk can be compared with them: what is blocked, ahead or left is looked up anew each time.
 */
final class PlainDisk {
    private static final class Request {
        int client;
        boolean write;
        int sector;
        int count;
        long deadline;
        int servedAs;
    }

    private static final class Client {
        int weight;
        int budget;
        long tag;
        long sectors;
    }

    /** A request that came (growth 0) or that was served. */
    private record Event(int client, long growth) {
    }

    private final Client[] clients = new Client[8];
    private final List<Request> requests = new ArrayList<>();
    private final List<Integer> served = new ArrayList<>();
    private final List<Event> events = new ArrayList<>();
    private long clock;
    private int head;
    private long passed;
    private long system;
    private int slice = -1;
    private long left;

    void client(int id, int weight, int budget) {
        if (id < 0 || id > 7 || weight < 1 || weight > 12 || budget < 1 || budget > 1000) {
            throw new IllegalArgumentException();
        }
        if (clients[id] == null) {
            clients[id] = new Client();
            clients[id].tag = system;
        }
        clients[id].weight = weight;
        clients[id].budget = budget;
    }

    void gone(int id) {
        there(id);
        if (waiting(id) > 0) {
            throw new IllegalStateException();
        }
        clients[id] = null;
        if (slice == id) {
            slice = -1;
        }
    }

    int submit(int id, boolean write, int sector, int count, int patience) {
        Client client = there(id);
        if (count < 1 || count > 64 || sector < 0 || (long) sector + count - 1 > 99999
                || patience < 0 || patience > 1000000) {
            throw new IllegalArgumentException();
        }
        if (waiting(id) == 64 || requests.size() == 500) {
            return -1;
        }
        if (waiting(id) == 0 && client.tag < system) {
            client.tag = system;
        }
        Request request = new Request();
        request.client = id;
        request.write = write;
        request.sector = sector;
        request.count = count;
        request.deadline = clock + patience;
        requests.add(request);
        events.add(new Event(id, 0));
        return requests.size() - 1;
    }

    int dispatch() {
        List<Integer> free = free();
        if (free.isEmpty()) {
            return -1;
        }
        List<Integer> late = new ArrayList<>(free);
        late.removeIf(t -> requests.get(t).deadline > clock);
        if (!late.isEmpty()) {
            late.sort((t, u) -> byTwo(requests.get(t).deadline, requests.get(u).deadline, t, u));
            return serve(late.get(0), 3);
        }
        if (slice == -1) {
            List<Integer> turn = new ArrayList<>();
            for (int id = 0; id < 8; id++) {
                if (waiting(id) > 0) {
                    turn.add(id);
                }
            }
            turn.sort((a, b) -> byTwo(clients[a].tag, clients[b].tag, a, b));
            slice = turn.get(0);
            left = clients[slice].budget;
            system = clients[slice].tag;
        }
        free.removeIf(t -> requests.get(t).client != slice);
        free.sort((t, u) -> byTwo(requests.get(t).sector, requests.get(u).sector, t, u));
        for (int ticket : free) {
            if (requests.get(ticket).sector >= head) {
                return serve(ticket, 2);
            }
        }
        return serve(free.get(0), 2);
    }

    private int serve(int ticket, int as) {
        Request request = requests.get(ticket);
        Client client = clients[request.client];
        long way = request.sector < head ? head - request.sector : request.sector - head;
        passed += way;
        clock += way / 100;
        clock += request.count;
        head = request.sector + request.count;
        request.servedAs = as;
        served.add(ticket);
        long growth = 27720L * request.count / client.weight;
        client.tag += growth;
        client.sectors += request.count;
        events.add(new Event(request.client, growth));
        if (slice == request.client) {
            left -= request.count;
            if (left <= 0 || waiting(slice) == 0) {
                slice = -1;
            }
        }
        if (served.size() == requests.size()) {
            for (Client each : clients) {
                if (each != null && each.tag > system) {
                    system = each.tag;
                }
            }
        }
        return ticket;
    }

    long pass(int n) {
        if (n < 0 || n > 1000000) {
            throw new IllegalArgumentException();
        }
        clock += n;
        return clock;
    }

    int state(int ticket) {
        Request request = requests.get(ticket);
        if (request.servedAs != 0) {
            return request.servedAs;
        }
        return blocked(ticket) ? 0 : 1;
    }

    int order(int i) {
        return i < 0 || i >= served.size() ? -1 : served.get(i);
    }

    long tag(int id) {
        return id == 8 ? system : there(id).tag;
    }

    /** Goes through all that happened: the sum begins anew whenever not both have some. */
    long lag(int a, int b) {
        there(a);
        there(b);
        if (a == b) {
            throw new IllegalArgumentException();
        }
        int[] waits = new int[8];
        long sum = 0;
        for (Event event : events) {
            waits[event.client] += event.growth == 0 ? 1 : -1;
            if (event.client == a) {
                sum += event.growth;
            }
            if (event.client == b) {
                sum -= event.growth;
            }
            if (waits[a] == 0 || waits[b] == 0) {
                sum = 0;
            }
        }
        return sum;
    }

    long count(int what) {
        if (what >= 8 && what < 16) {
            return clients[what - 8] == null ? 0 : clients[what - 8].sectors;
        }
        if (what >= 16 && what < 24) {
            return waiting(what - 16);
        }
        switch (what) {
            case 0: {
                long found = 0;
                for (Client each : clients) {
                    found += each == null ? 0 : 1;
                }
                return found;
            }
            case 1:
                return requests.size() - served.size();
            case 2:
                return served.size();
            case 3:
                return requests.stream().filter(r -> r.servedAs == 3).count();
            case 4:
                return head;
            case 5:
                return passed;
            case 6:
                return slice;
            case 7:
                return slice == -1 ? 0 : left;
            default:
                return -1;
        }
    }

    private Client there(int id) {
        if (id < 0 || id > 7 || clients[id] == null) {
            throw new IllegalArgumentException();
        }
        return clients[id];
    }

    private int waiting(int id) {
        int found = 0;
        for (Request request : requests) {
            if (request.client == id && request.servedAs == 0) {
                found++;
            }
        }
        return found;
    }

    private List<Integer> free() {
        List<Integer> found = new ArrayList<>();
        for (int ticket = 0; ticket < requests.size(); ticket++) {
            if (requests.get(ticket).servedAs == 0 && !blocked(ticket)) {
                found.add(ticket);
            }
        }
        return found;
    }

    private boolean blocked(int ticket) {
        Request request = requests.get(ticket);
        for (int lower = 0; lower < ticket; lower++) {
            Request other = requests.get(lower);
            if (other.client == request.client && other.servedAs == 0
                    && (other.write || request.write) && share(other, request)) {
                return true;
            }
        }
        return false;
    }

    private static boolean share(Request a, Request b) {
        for (int sector = a.sector; sector < a.sector + a.count; sector++) {
            if (sector >= b.sector && sector < b.sector + b.count) {
                return true;
            }
        }
        return false;
    }

    private static int byTwo(long first, long second, int lower, int higher) {
        return first != second ? Long.compare(first, second) : Integer.compare(lower, higher);
    }
}
