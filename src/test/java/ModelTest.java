import java.util.ArrayList;
import java.util.List;
import java.util.TreeMap;

// Long runs of calls on BanLand beside a model of the document that is written on its own,
// as literally and slowly as may be; every answer and every digest is compared.
public final class ModelTest {
    private static final int RUNS = 1500;
    private static final int CALLS = 480;
    private static final String[] NAMES = {"land", "town", "road", "clause", "strike", "undo", "type",
        "clear", "read", "of", "far", "allowed", "nearest", "contradict", "settle", "reads", "patience",
        "concede", "presses", "leave", "burn", "forged", "whose", "odds", "drawn", "part", "image",
        "from", "status", "count"};

    private static long random = 20261119L;

    private static int pick(int below) {
        random = random * 6364136223846793005L + 1442695040888963407L;
        return (int) Math.floorMod(random >>> 33, (long) below);
    }

    public static void main(String[] args) {
        int wrong = 0;
        for (int run = 0; run < RUNS && wrong < 5; run++) {
            if (!agrees(run)) {
                wrong++;
            }
        }
        System.out.println("ModelTest: " + RUNS + " runs, " + wrong + " wrong");
        if (wrong != 0) {
            System.exit(1);
        }
    }

    private static boolean agrees(int run) {
        BanLand x = new BanLand();
        Model m = new Model();
        List<String> told = new ArrayList<>();
        int calls = 0;
        while (calls < CALLS) {
            List<int[]> next = new ArrayList<>();
            if (pick(40) == 0) {
                next.add(new int[] {7, 0, 0, 0, 0, 0, 0});
                String text = someText();
                for (int i = 0; i < text.length(); i++) {
                    next.add(new int[] {6, text.charAt(i), 0, 0, 0, 0, 0});
                }
                next.add(new int[] {8, 0, 0, 0, 0, 0, 0});
            } else {
                next.add(someCall(m, run));
            }
            for (int[] c : next) {
                calls++;
                StringBuilder line = new StringBuilder(NAMES[c[0]]);
                for (int i = 1; i < 7; i++) {
                    line.append(' ').append(c[i]);
                }
                told.add(line.toString());
                long got = ask(x, c);
                long want = m.ask(c);
                if (got != want || x.digest() != m.digest()) {
                    System.out.println("run " + run + ": answered " + got + ", due is " + want
                            + ", digest " + x.digest() + ", due is " + m.digest() + ", after " + told);
                    return false;
                }
            }
        }
        return true;
    }

    private static int[] someCall(Model m, int run) {
        int call = pick(NAMES.length + 12);
        if (call >= NAMES.length) {
            call = new int[] {1, 1, 2, 2, 3, 3, 3, 3, 4, 5, 19, 19}[call - NAMES.length];
        }
        if ((call == 0 || call == 8) && pick(8) != 0) {
            call = 3;
        }
        int[] c = {call, 0, 0, 0, 0, 0, 0};
        int towns = Math.max(1, m.readings.size());
        switch (NAMES[call]) {
            case "town": set(c, pick(4)); break;
            case "road": set(c, pick(towns), pick(towns), 1 + pick(9)); break;
            case "clause":
                int from = pick(run % 2 == 0 ? 61 : 20);
                set(c, pick(6), pick(run % 3 == 0 ? 2 : 6), from, from + pick(61 - from), pick(6));
                break;
            case "strike": set(c, pick(Math.max(1, m.clauses.size()))); break;
            case "type": set(c, pick(128)); break;
            case "of": set(c, pick(Math.max(1, m.clauses.size())), pick(7)); break;
            case "far": set(c, pick(towns), pick(towns)); break;
            case "allowed": set(c, pick(towns), pick(6), pick(60), pick(2), pick(2), pick(2)); break;
            case "nearest": set(c, pick(towns), pick(6), pick(60), pick(2), pick(2), pick(3)); break;
            case "contradict": set(c, pick(6), pick(60), pick(11) - 1); break;
            case "settle": set(c, pick(64), pick(60)); break;
            case "reads":
            case "leave": set(c, pick(towns), pick(6), pick(60), pick(2), pick(2)); break;
            case "patience": set(c, pick(100), pick(100), pick(64), pick(2)); break;
            case "concede": set(c, pick(Math.max(1, m.clauses.size())), pick(100), pick(100), pick(64)); break;
            case "presses": set(c, pick(64), pick(2)); break;
            case "whose": set(c, pick(towns), pick(21), pick(6), pick(60), pick(2), pick(2)); break;
            case "odds":
                int a = pick(60);
                set(c, pick(towns), pick(6), a, a + pick(60 - a), pick(2), pick(2));
                break;
            case "drawn": set(c, pick(1000000), pick(61)); break;
            case "part":
            case "image":
            case "from": set(c, pick(2)); break;
            case "status": set(c, pick(3)); break;
            case "count": set(c, pick(6)); break;
            default: break;
        }
        if (pick(12) == 0) {
            int[] odd = {-1, -2, 6, 7, 8, 21, 60, 61, 64, 100, 128, 1000000,
                Integer.MIN_VALUE, Integer.MAX_VALUE, 0, 1, 2, 3, 4, 5};
            c[1 + pick(6)] = odd[pick(odd.length)];
        }
        return c;
    }

    private static void set(int[] c, int... arguments) {
        System.arraycopy(arguments, 0, c, 1, arguments.length);
    }

    private static String blanks(boolean needed) {
        int many = pick(8);
        return many == 0 ? "  " : many < 3 || needed ? " " : "";
    }

    private static String number(int least, int most) {
        int value = pick(40) == 0 ? most + 1 : least + pick(most - least + 1);
        int shape = pick(30);
        return shape == 0 ? "0" + value : shape == 1 && pick(5) == 0 ? "00" + value : "" + value;
    }

    private static String someText() {
        StringBuilder s = new StringBuilder();
        s.append(blanks(false)).append("land").append(blanks(false)).append(';');
        int towns = 0;
        int items = pick(12);
        for (int i = 0; i < items; i++) {
            int kind = pick(3);
            s.append(blanks(false));
            if (kind == 0 || towns == 0) {
                s.append("town").append(blanks(false)).append(number(0, 3));
                towns++;
            } else if (kind == 1) {
                s.append("road").append(blanks(false)).append(number(0, towns - 1)).append(blanks(true))
                        .append(number(0, towns - 1)).append(blanks(true)).append(number(1, 9));
            } else {
                int from = pick(61);
                s.append("clause").append(blanks(false)).append(number(0, 5)).append(blanks(true))
                        .append(number(0, 5)).append(blanks(true)).append(from).append(blanks(true))
                        .append(number(pick(30) == 0 ? 0 : from, 60)).append(blanks(true)).append(number(0, 5));
            }
            s.append(blanks(false)).append(';');
        }
        s.append(blanks(false));
        int spoil = pick(6);
        if (spoil == 0) {
            s.setLength(pick(s.length() + 1));
        } else if (spoil == 1) {
            s.setCharAt(pick(s.length()), (char) pick(128));
        } else if (spoil == 2) {
            s.insert(pick(s.length() + 1), "land;0 9town\n a".charAt(pick(15)));
        } else if (spoil == 3 && pick(2) == 0) {
            s.deleteCharAt(pick(s.length()));
        }
        if (s.length() > 155) {
            s.setLength(155);
        }
        return s.toString();
    }

    private static long ask(BanLand x, int[] c) {
        switch (NAMES[c[0]]) {
            case "land": return x.land();
            case "town": return x.town(c[1]);
            case "road": return x.road(c[1], c[2], c[3]);
            case "clause": return x.clause(c[1], c[2], c[3], c[4], c[5]);
            case "strike": return x.strike(c[1]);
            case "undo": return x.undo();
            case "type": return x.type(c[1]);
            case "clear": return x.clear();
            case "read": return x.read();
            case "of": return x.of(c[1], c[2]);
            case "far": return x.far(c[1], c[2]);
            case "allowed": return x.allowed(c[1], c[2], c[3], c[4], c[5], c[6]);
            case "nearest": return x.nearest(c[1], c[2], c[3], c[4], c[5], c[6]);
            case "contradict": return x.contradict(c[1], c[2], c[3]);
            case "settle": return x.settle(c[1], c[2]);
            case "reads": return x.reads(c[1], c[2], c[3], c[4], c[5]);
            case "patience": return x.patience(c[1], c[2], c[3], c[4]);
            case "concede": return x.concede(c[1], c[2], c[3], c[4]);
            case "presses": return x.presses(c[1], c[2]);
            case "leave": return x.leave(c[1], c[2], c[3], c[4], c[5]);
            case "burn": return x.burn();
            case "forged": return x.forged();
            case "whose": return x.whose(c[1], c[2], c[3], c[4], c[5], c[6]);
            case "odds": return x.odds(c[1], c[2], c[3], c[4], c[5], c[6]);
            case "drawn": return x.drawn(c[1], c[2]);
            case "part": return x.part(c[1]);
            case "image": return x.image(c[1]);
            case "from": return x.from(c[1]);
            case "status": return x.status(c[1]);
            default: return x.count(c[1]);
        }
    }

    private static final class Kept {
        List<Integer> readings;
        TreeMap<Integer, Integer> roads;
        List<int[]> clauses;
        List<List<int[]>> past;
        List<int[]> leaves;
    }

    private static final class Model {
        List<Integer> readings = new ArrayList<>();
        TreeMap<Integer, Integer> roads = new TreeMap<>();
        List<int[]> clauses = new ArrayList<>();
        List<List<int[]>> past = new ArrayList<>();
        List<int[]> leaves = new ArrayList<>();
        String text = "";
        long above = 0;
        long below = 1;
        final long[] refused = new long[3];
        final Kept[] images = new Kept[2];

        long ask(int[] c) {
            long answer = answer(c);
            String name = NAMES[c[0]];
            boolean bad = name.equals("allowed") || name.equals("contradict") ? answer == -10
                    : name.equals("concede") ? answer == -100
                    : name.equals("status") ? answer == -1
                    : !name.equals("read") && answer == -2;
            if (bad) {
                refused[0]++;
            }
            if (answer == -3 && (name.equals("undo") || name.equals("from"))) {
                refused[1]++;
            }
            if (answer == -4 && (name.equals("town") || name.equals("clause") || name.equals("type")
                    || name.equals("leave"))) {
                refused[2]++;
            }
            return answer;
        }

        boolean town(int t) {
            return t >= 0 && t < readings.size();
        }

        static boolean in(int v, int least, int most) {
            return least <= v && v <= most;
        }

        boolean asked(int town, int act, int day, int dying, int shut) {
            return town(town) && in(act, 0, 5) && in(day, 0, 59) && in(dying, 0, 1) && in(shut, 0, 1);
        }

        int way(int a, int b) {
            Integer days = roads.get(10 * Math.min(a, b) + Math.max(a, b));
            return days == null ? 0 : days;
        }

        // By trying every way that comes to no town twice.
        int far(int a, int b, int seen) {
            if (a == b) {
                return 0;
            }
            int best = 9999;
            for (int t = 0; t < readings.size(); t++) {
                if ((seen >> t & 1) == 0 && way(a, t) > 0) {
                    best = Math.min(best, way(a, t) + far(t, b, seen | 1 << t));
                }
            }
            return best;
        }

        int far(int a, int b) {
            return far(a, b, 1 << a);
        }

        static boolean speaks(int[] c, int town, int act, int day, int dying, int shut) {
            int days = c[3] - c[2];
            int last = c[0] == 2 ? c[2] + days / 2 + days % 2 : c[3];
            if (c[1] != act || day < c[2] || day >= last) {
                return false;
            }
            switch (c[0]) {
                case 3: return town == c[4];
                case 4: return dying == 1;
                case 5: return town == c[4] && shut == 1;
                default: return true;
            }
        }

        static boolean allows(int[] c) {
            return c[0] == 1 || c[0] >= 3;
        }

        int by(List<int[]> law, int reading, int[] asked) {
            List<Integer> all = new ArrayList<>();
            List<Integer> allow = new ArrayList<>();
            List<Integer> forbid = new ArrayList<>();
            for (int i = 0; i < law.size(); i++) {
                if (speaks(law.get(i), asked[0], asked[1], asked[2], asked[3], asked[4])) {
                    all.add(i);
                    (allows(law.get(i)) ? allow : forbid).add(i);
                }
            }
            if (all.isEmpty()) {
                return -1;
            }
            switch (reading) {
                case 0: return all.get(0);
                case 1: return all.get(all.size() - 1);
                case 2: return allow.isEmpty() ? all.get(0) : allow.get(0);
                default: return allow.size() > forbid.size() ? allow.get(0) : forbid.get(0);
            }
        }

        boolean may(List<int[]> law, int reading, int... asked) {
            int by = by(law, reading, asked);
            return by < 0 || allows(law.get(by));
        }

        boolean may(int... asked) {
            return may(clauses, readings.get(asked[0]), asked);
        }

        List<int[]> without(int struck) {
            List<int[]> left = new ArrayList<>();
            for (int i = 0; i < clauses.size(); i++) {
                if ((struck >> i & 1) == 0) {
                    left.add(clauses.get(i));
                }
            }
            return left;
        }

        boolean presses(List<int[]> law, int town, int acts, int day) {
            for (int act = 0; act < 6; act++) {
                if ((acts >> act & 1) != 0 && !may(law, readings.get(town), town, act, day, 0, 0)) {
                    return true;
                }
            }
            return false;
        }

        // The day and who, as 10 times the day and who; 600 if none.
        int gives(List<int[]> law, int k, int p, int acts) {
            int king = k;
            int pope = p;
            for (int day = 0; day < 60; day++) {
                for (int t = 0; t < readings.size(); t++) {
                    if (presses(law, t, acts, day)) {
                        king--;
                    } else {
                        pope--;
                    }
                }
                if (king <= 0 || pope <= 0) {
                    return 10 * day + (king <= 0 && pope <= 0 ? 2 : king <= 0 ? 0 : 1);
                }
            }
            return 600;
        }

        long settle(int acts, int day) {
            for (int many = 0; many <= clauses.size(); many++) {
                for (int struck = 0; struck < 1 << clauses.size(); struck++) {
                    if (Integer.bitCount(struck) == many && agree(without(struck), acts, day)) {
                        return struck;
                    }
                }
            }
            throw new IllegalStateException();
        }

        boolean agree(List<int[]> law, int acts, int day) {
            for (int act = 0; act < 6; act++) {
                for (int t = 1; t < readings.size() && (acts >> act & 1) != 0; t++) {
                    if (may(law, readings.get(t), t, act, day, 0, 0)
                            != may(law, readings.get(0), 0, act, day, 0, 0)) {
                        return false;
                    }
                }
            }
            return true;
        }

        void remember() {
            past.add(new ArrayList<>(clauses));
            if (past.size() > 8) {
                past.remove(0);
            }
        }

        Kept kept() {
            Kept k = new Kept();
            k.readings = new ArrayList<>(readings);
            k.roads = new TreeMap<>(roads);
            k.clauses = new ArrayList<>(clauses);
            k.past = new ArrayList<>(past);
            k.leaves = new ArrayList<>(leaves);
            return k;
        }

        void go(Kept k) {
            readings = new ArrayList<>(k.readings);
            roads = new TreeMap<>(k.roads);
            clauses = new ArrayList<>(k.clauses);
            past = new ArrayList<>(k.past);
            leaves = new ArrayList<>(k.leaves);
        }

        void blank() {
            go(new Model().kept());
        }

        long answer(int[] c) {
            int a = c[1];
            int b = c[2];
            int d = c[3];
            int e = c[4];
            int f = c[5];
            int g = c[6];
            switch (NAMES[c[0]]) {
                case "land":
                    int were = readings.size();
                    blank();
                    return were;
                case "town":
                    if (!in(a, 0, 3)) {
                        return -2;
                    }
                    if (readings.size() == 6) {
                        return -4;
                    }
                    readings.add(a);
                    return readings.size() - 1;
                case "road":
                    if (!town(a) || !town(b) || a == b || !in(d, 1, 9)) {
                        return -2;
                    }
                    Integer was = roads.put(10 * Math.min(a, b) + Math.max(a, b), d);
                    return was == null ? 0 : was;
                case "clause":
                    if (!in(a, 0, 5) || !in(b, 0, 5) || !in(d, 0, 60) || !in(e, 0, 60) || d > e || !in(f, 0, 5)) {
                        return -2;
                    }
                    if (clauses.size() == 8) {
                        return -4;
                    }
                    remember();
                    clauses.add(new int[] {a, b, d, e, f});
                    return clauses.size() - 1;
                case "strike":
                    if (!in(a, 0, clauses.size() - 1)) {
                        return -2;
                    }
                    remember();
                    clauses.remove(a);
                    return clauses.size();
                case "undo":
                    if (past.isEmpty()) {
                        return -3;
                    }
                    clauses = new ArrayList<>(past.remove(past.size() - 1));
                    return clauses.size();
                case "type":
                    if (!in(a, 0, 127)) {
                        return -2;
                    }
                    if (text.length() == 150) {
                        return -4;
                    }
                    text += (char) a;
                    return text.length();
                case "clear":
                    int had = text.length();
                    text = "";
                    return had;
                case "read": return read();
                case "of":
                    if (!in(a, 0, clauses.size() - 1) || !in(b, 0, 6)) {
                        return -2;
                    }
                    int[] told = clauses.get(a);
                    int days = 0;
                    for (int day = 0; day < 60; day++) {
                        days += speaks(told, told[4], told[1], day, 1, 1) ? 1 : 0;
                    }
                    return b < 5 ? told[b] : b == 6 ? days : allows(told) ? 1 : 0;
                case "far":
                    if (!town(a) || !town(b)) {
                        return -2;
                    }
                    return far(a, b) > 999 ? -1 : far(a, b);
                case "allowed":
                    if (!asked(a, b, d, e, f) || !in(g, 0, 1)) {
                        return -10;
                    }
                    return g == 0 ? (may(a, b, d, e, f) ? 1 : 0)
                            : by(clauses, readings.get(a), new int[] {a, b, d, e, f});
                case "nearest": return nearest(a, b, d, e, f, g);
                case "contradict": return contradict(a, b, d);
                case "settle": return !in(a, 0, 63) || !in(b, 0, 59) ? -2 : settle(a, b);
                case "reads":
                    if (!asked(a, b, d, e, f)) {
                        return -2;
                    }
                    int readingsThat = 0;
                    for (int r = 0; r < 4; r++) {
                        readingsThat += may(clauses, r, a, b, d, e, f) ? 1 << r : 0;
                    }
                    return readingsThat;
                case "patience":
                    if (!in(a, 0, 99) || !in(b, 0, 99) || !in(d, 0, 63) || !in(e, 0, 1)) {
                        return -2;
                    }
                    int gives = gives(clauses, a, b, d);
                    return gives == 600 ? -1 : e == 0 ? gives / 10 : gives % 10;
                case "concede":
                    if (!in(a, 0, clauses.size() - 1) || !in(b, 0, 99) || !in(d, 0, 99) || !in(e, 0, 63)) {
                        return -100;
                    }
                    return gives(without(1 << a), b, d, e) / 10 - gives(clauses, b, d, e) / 10;
                case "presses": return presses(a, b);
                case "leave":
                    if (!asked(a, b, d, e, f)) {
                        return -2;
                    }
                    if (leaves.size() == 8) {
                        return -4;
                    }
                    leaves.add(new int[] {a, b, d, e, f});
                    return leaves.size() - 1;
                case "burn":
                    int burnt = leaves.size();
                    leaves.clear();
                    return burnt;
                case "forged":
                    int forged = 0;
                    for (int i = 0; i < leaves.size(); i++) {
                        forged |= may(leaves.get(i)) ? 0 : 1 << i;
                    }
                    return forged;
                case "whose":
                    if (!asked(a, d, e, f, g) || !in(b, 0, 20)) {
                        return -2;
                    }
                    int whose = 0;
                    for (int t = 0; t < readings.size(); t++) {
                        whose |= far(a, t) <= b && may(t, d, e, f, g) ? 1 << t : 0;
                    }
                    return whose;
                case "odds": return odds(a, b, d, e, f, g);
                case "drawn": return drawn(a, b);
                case "part": return a == 0 ? above : a == 1 ? below : -2;
                case "image":
                    if (!in(a, 0, 1)) {
                        return -2;
                    }
                    images[a] = kept();
                    return 1;
                case "from":
                    if (!in(a, 0, 1)) {
                        return -2;
                    }
                    if (images[a] == null) {
                        return -3;
                    }
                    go(images[a]);
                    return 1;
                case "status": return in(a, 0, 2) ? refused[a] : -1;
                default: return in(a, 0, 5) ? counts()[a] : -2;
            }
        }

        long nearest(int town, int act, int day, int dying, int shut, int what) {
            if (!asked(town, act, day, dying, shut) || !in(what, 0, 2)) {
                return -2;
            }
            int[] best = null;
            for (int t = 0; t < readings.size(); t++) {
                int way = far(town, t);
                for (int then = day + way; then < 60; then++) {
                    if (may(t, act, then, dying, shut)) {
                        if (best == null || then < best[0] || then == best[0] && way < best[2]) {
                            best = new int[] {then, t, way};
                        }
                        break;
                    }
                }
            }
            return best == null ? -1 : best[what];
        }

        long contradict(int act, int day, int i) {
            if (!in(act, 0, 5) || !in(day, 0, 59) || i < -1) {
                return -10;
            }
            List<Integer> pairs = new ArrayList<>();
            for (int pair = 0; pair < 56; pair++) {
                int a = pair / 10;
                int b = pair % 10;
                if (a < b && town(a) && town(b) && may(a, act, day, 0, 0) != may(b, act, day, 0, 0)) {
                    pairs.add(pair);
                }
            }
            return i == -1 ? pairs.size() : i < pairs.size() ? pairs.get(i) : -5;
        }

        long presses(int acts, int what) {
            if (!in(acts, 0, 63) || !in(what, 0, 1)) {
                return -2;
            }
            int most = -1;
            int which = -1;
            for (int t = 0; t < readings.size(); t++) {
                int days = 0;
                for (int day = 0; day < 60; day++) {
                    days += presses(clauses, t, acts, day) ? 1 : 0;
                }
                if (days > most) {
                    most = days;
                    which = t;
                }
            }
            return what == 0 ? which : Math.max(0, most);
        }

        long odds(int town, int act, int a, int b, int dying, int shut) {
            if (!asked(town, act, a, dying, shut) || !in(b, 0, 59) || a > b) {
                return -2;
            }
            long vain = 0;
            for (int day = a; day <= b; day++) {
                vain += may(town, act, day, dying, shut) ? 0 : 1;
            }
            above = vain;
            below = b - a + 1;
            for (int by = 60; by > 1; by--) {
                while (above % by == 0 && below % by == 0) {
                    above /= by;
                    below /= by;
                }
            }
            return 1;
        }

        long drawn(int seed, int n) {
            if (!in(seed, 0, 999999) || !in(n, 0, 60)) {
                return -2;
            }
            if (readings.isEmpty()) {
                return -1;
            }
            long x = seed;
            int allowed = 0;
            for (int i = 0; i < n; i++) {
                int[] drawn = new int[4];
                int[] by = {readings.size(), 6, 60, 4};
                for (int j = 0; j < 4; j++) {
                    x = Math.floorMod(x * 1103515245L + 12345L, 1L << 31);
                    drawn[j] = (int) (x / 65536) % by[j];
                }
                allowed += may(drawn[0], drawn[1], drawn[2], drawn[3] / 2, drawn[3] % 2) ? 1 : 0;
            }
            return allowed;
        }

        long[] counts() {
            return new long[] {readings.size(), clauses.size(), roads.size(), leaves.size(), past.size(),
                text.length()};
        }

        long digest() {
            List<Long> all = new ArrayList<>();
            for (long v : counts()) {
                all.add(v);
            }
            for (int r : readings) {
                all.add((long) r);
            }
            for (int a = 0; a < readings.size(); a++) {
                for (int b = a + 1; b < readings.size(); b++) {
                    all.add((long) way(a, b));
                }
            }
            for (int[] c : clauses) {
                for (int v : c) {
                    all.add((long) v);
                }
            }
            for (int[] l : leaves) {
                for (int v : l) {
                    all.add((long) v);
                }
            }
            all.add(above);
            all.add(below);
            long h = 947;
            for (long v : all) {
                h = 31 * h + v;
            }
            return h;
        }

        // Cuts the text into tokens with their places first, then walks over them.
        long read() {
            List<String> tokens = new ArrayList<>();
            List<Integer> places = new ArrayList<>();
            int i = 0;
            while (i < text.length()) {
                int j = i + 1;
                String like = like(text.charAt(i));
                while (!like.isEmpty() && j < text.length() && like(text.charAt(j)).equals(like)) {
                    j++;
                }
                if (text.charAt(i) != ' ') {
                    tokens.add(text.substring(i, j));
                    places.add(i);
                }
                i = j;
            }
            places.add(text.length());
            Model fresh = new Model();
            int items = 0;
            int at = 0;
            while (at < tokens.size() || items == 0) {
                String word = at < tokens.size() ? tokens.get(at) : "";
                boolean fits = items == 0 ? word.equals("land") : word.equals("town") && fresh.readings.size() < 6
                        || word.equals("road") || word.equals("clause") && fresh.clauses.size() < 8;
                if (!fits) {
                    return -10 - places.get(at);
                }
                at++;
                int many = word.equals("land") ? 0 : word.equals("town") ? 1 : word.equals("road") ? 3 : 5;
                int[] c = {0, 0, 0, 0, 0, 0, 0};
                for (int n = 1; n <= many; n++) {
                    String token = at < tokens.size() ? tokens.get(at) : "";
                    if (!token.matches("[0-9]{1,2}")) {
                        return -10 - places.get(at);
                    }
                    c[n] = Integer.parseInt(token);
                    if (!fresh.fits(word, c, n)) {
                        return -10 - places.get(at);
                    }
                    at++;
                }
                if (at >= tokens.size() || !tokens.get(at).equals(";")) {
                    return -10 - places.get(at);
                }
                at++;
                items++;
                if (many > 0) {
                    c[0] = many == 1 ? 1 : many == 3 ? 2 : 3;
                    fresh.ask(c);
                }
            }
            fresh.past.clear();
            go(fresh.kept());
            return items;
        }

        boolean fits(String word, int[] c, int n) {
            if (word.equals("town")) {
                return c[1] <= 3;
            }
            if (word.equals("road")) {
                return n == 1 ? town(c[1]) : n == 2 ? town(c[2]) && c[2] != c[1] : c[3] >= 1 && c[3] <= 9;
            }
            return n <= 2 || n == 5 ? c[n] <= 5 : n == 3 ? c[3] <= 60 : c[4] <= 60 && c[4] >= c[3];
        }

        static String like(char c) {
            return c >= 'a' && c <= 'z' ? "letter" : c >= '0' && c <= '9' ? "figure" : c == ' ' ? "blank" : "";
        }
    }
}
