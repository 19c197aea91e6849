import java.util.ArrayDeque;
import java.util.ArrayList;
import java.util.Deque;
import java.util.HashSet;
import java.util.List;
import java.util.Random;
import java.util.Set;

/** Long runs of mixed calls, the same each time, held against a second build of the document. */
public final class ModelTest {
    private static final int RUNS = 3000;
    private static final int CALLS = 512;

    private static final class Failure extends Exception {
        private static final long serialVersionUID = 1L;
        final int code;

        Failure(int code) {
            super(null, null, false, false);
            this.code = code;
        }
    }

    private static final class Room {
        int number, kind, fee, gifts, passes, asks, paid, inside, most;
    }

    /** Failures are exceptions here and halls are left in finally, other than in the class. */
    private static final class Model {
        final Room[] rooms = new Room[10];
        final Integer[] parents = new Integer[10];
        final List<Integer> trace = new ArrayList<>();
        int purse, made, failure, begun, atWork, within, deepest;

        static boolean in(int number, int least, int most) {
            return number >= least && number <= most;
        }

        int hall(int place, int kind, int fee) {
            if (!in(place, 0, 9) || !in(kind, 0, 2) || !in(fee, 0, 1000)) return -1;
            Room room = new Room();
            room.number = made;
            room.kind = kind;
            room.fee = fee;
            rooms[place] = room;
            return made++;
        }

        int share(int from, int to) {
            if (!in(from, 0, 9) || !in(to, 0, 9)) return -1;
            rooms[to] = rooms[from];
            return rooms[from] != null ? 1 : 0;
        }

        int parent(int place, int of) {
            if (!in(place, 0, 9) || !in(of, -1, 9)) return -2;
            int had = parents[place] == null ? -1 : parents[place];
            parents[place] = of == -1 ? null : (Integer) of;
            return had;
        }

        int fill(int n) {
            if (!in(n, 0, 1000)) return -1;
            purse += n;
            if (purse > 1000000) purse = 1000000;
            return purse;
        }

        int walk(int place, int deed, int n) {
            if (!in(place, 0, 9) || !in(deed, 0, 7)) return -1;
            trace.clear();
            deepest = 0;
            failure = 0;
            try {
                go(place, deed, n);
                return 1;
            } catch (Failure f) {
                failure = f.code;
                return -10 - f.code;
            }
        }

        void go(int place, int deed, int n) throws Failure {
            if (atWork == 3) throw new Failure(2);
            atWork++;
            begun++;
            try {
                Deque<Integer> path = new ArrayDeque<>();
                Set<Integer> seen = new HashSet<>();
                for (Integer at = place; at != null; at = parents[at]) {
                    if (!seen.add(at)) throw new Failure(8);
                    path.push(at);
                }
                goIn(path, deed, n);
            } finally {
                atWork--;
            }
        }

        void goIn(Deque<Integer> path, int deed, int n) throws Failure {
            Room room = rooms[path.pop()];
            if (room == null) throw new Failure(1);
            within++;
            deepest = Math.max(deepest, within);
            room.passes++;
            room.inside++;
            room.most = Math.max(room.most, room.inside);
            mark(room.number % 100);
            try {
                if (room.kind == 2 && room.passes % 3 == 0) throw new Failure(21);
                int charge = room.kind == 0 ? room.fee : (room.fee + room.passes) * room.kind;
                if (purse < charge) throw new Failure(20);
                purse -= charge;
                room.paid += charge;
                if (path.isEmpty()) act(room, deed, n);
                else goIn(path, deed, n);
            } finally {
                within--;
                room.inside--;
                mark(100 + room.number % 100);
            }
        }

        void mark(int number) {
            if (trace.size() < 100) trace.add(number);
        }

        void act(Room room, int deed, int n) throws Failure {
            int digit = ((n % 10) + 10) % 10;
            if (deed == 1) {
                room.gifts += n;
            } else if (deed == 2) {
                earn(room.gifts);
                room.gifts = 0;
            } else if (deed == 3) {
                if (n == 0) throw new Failure(6);
                room.gifts = (int) ((long) room.gifts / n);
            } else if (deed == 4) {
                rooms[digit] = null;
            } else if (deed == 5) {
                go(digit, Math.abs((long) n) >= 10 ? 5 : 0, n / 10);
            } else if (deed == 6) {
                throw new Failure(20 + (n & 3));
            } else if (deed == 7) {
                earn(within);
            }
        }

        void earn(long more) throws Failure {
            if (purse + more < 0 || purse + more > 1000000) throw new Failure(22);
            purse += more;
        }

        int seek(long sum) {
            outer:
            for (int a = 0; a <= 9; a++) {
                if (rooms[a] == null) continue;
                rooms[a].asks++;
                for (int b = a + 1; b <= 9; b++) {
                    if (rooms[b] == null) continue;
                    rooms[b].asks++;
                    if (0L + rooms[a].gifts + rooms[b].gifts == sum) return 10 * a + b;
                    if (rooms[b].gifts < 0) continue outer;
                }
            }
            return -1;
        }

        int told(int place, int what) {
            if (!in(place, 0, 9) || !in(what, 0, 7) || rooms[place] == null) return -1;
            Room r = rooms[place];
            return new int[] {r.number, r.kind, r.fee, r.passes, r.asks, r.paid, r.inside, r.most}[what];
        }

        int gifts(int place) {
            return in(place, 0, 9) && rooms[place] != null ? rooms[place].gifts : 0;
        }

        int trace(int k) {
            if (k == -1) return trace.size();
            return in(k, 0, trace.size() - 1) ? trace.get(k) : -1;
        }

        int count(int what) {
            int standing = 0;
            for (Room room : rooms) {
                if (room != null) standing++;
            }
            return in(what, 0, 5) ? new int[] {purse, made, standing, failure, begun, deepest}[what] : -1;
        }
    }

    private static final int[] ODD = {-1, -2, 10, 11, 1001, 100, 99, 8, 3, 6,
        Integer.MIN_VALUE, Integer.MAX_VALUE, Integer.MIN_VALUE + 1};

    private final Random random;
    private final Due due = new Due();
    private GateHalls x;
    private Model model;
    private String where;

    private ModelTest(long seed) {
        random = new Random(seed);
    }

    public static void main(String[] args) {
        ModelTest test = new ModelTest(20261116L);
        for (int run = 0; run < RUNS; run++) {
            test.run(run);
        }
        test.due.end();
    }

    private void run(int run) {
        x = new GateHalls();
        model = new Model();
        for (int call = 0; call < CALLS; call++) {
            where = "run " + run + ", call " + call + ": ";
            if (random.nextInt(3) > 0) change(run % 3);
            else look();
        }
    }

    private int pick(int least, int most) {
        if (random.nextInt(40) == 0) return ODD[random.nextInt(ODD.length)];
        return least + random.nextInt(most - least + 1);
    }

    private int number() {
        switch (random.nextInt(6)) {
            case 0: return random.nextInt();
            case 1: return ODD[random.nextInt(ODD.length)];
            case 2: return random.nextInt(2001) - 1000;
            case 3: return random.nextInt(1000001);
            default: return random.nextInt(25) - 8;
        }
    }

    /** Dear runs have high fees, so that the purse runs out; the others keep walking. */
    private void change(int dear) {
        int a = pick(0, 9);
        int n = number();
        switch (random.nextInt(12)) {
            case 0:
            case 1: {
                int kind = pick(0, 2);
                int fee = pick(0, dear == 0 ? 1000 : 3);
                due.is(where + "hall(" + a + ", " + kind + ", " + fee + ")",
                    x.hall(a, kind, fee), model.hall(a, kind, fee));
                break;
            }
            case 2: {
                int to = pick(0, 9);
                due.is(where + "share(" + a + ", " + to + ")", x.share(a, to), model.share(a, to));
                break;
            }
            case 3: {
                // Mostly downwards, so that few paths come back.
                int of = random.nextInt(8) == 0 ? pick(-1, 9) : pick(-1, Math.max(0, a % 10) - 1);
                due.is(where + "parent(" + a + ", " + of + ")", x.parent(a, of), model.parent(a, of));
                break;
            }
            case 4: {
                int more = pick(0, 1000);
                due.is(where + "fill(" + more + ")", x.fill(more), model.fill(more));
                break;
            }
            case 5: {
                long sum = random.nextInt(3) == 0 ? n : (long) model.gifts(a) + model.gifts(pick(0, 9));
                due.is(where + "seek(" + sum + ")", x.seek(sum), model.seek(sum));
                break;
            }
            default: {
                int deed = pick(0, 7);
                if (deed == 4 && random.nextInt(3) > 0) deed = 5;
                due.is(where + "walk(" + a + ", " + deed + ", " + n + ")",
                    x.walk(a, deed, n), model.walk(a, deed, n));
            }
        }
    }

    private void look() {
        int place = pick(0, 9);
        switch (random.nextInt(4)) {
            case 0: {
                int what = pick(0, 7);
                due.is(where + "told(" + place + ", " + what + ")", x.told(place, what), model.told(place, what));
                break;
            }
            case 1:
                due.is(where + "gifts(" + place + ")", x.gifts(place), model.gifts(place));
                break;
            case 2: {
                int k = pick(-1, random.nextInt(3) == 0 ? 60 : 6);
                due.is(where + "trace(" + k + ")", x.trace(k), model.trace(k));
                break;
            }
            default: {
                int what = pick(0, 5);
                due.is(where + "count(" + what + ")", x.count(what), model.count(what));
            }
        }
    }
}
