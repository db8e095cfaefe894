public final class BanLand {
    public static final int NONE = -1, BAD = -2, NO = -3, FULL = -4;

    private static final int READINGS = 4;
    private static final int TOWNS = 6;
    private static final int MOST_ROAD = 9;
    private static final int ACTS = 6;
    private static final int ALL_ACTS = 63;
    private static final int DAYS = 60;
    private static final int KINDS = 6;
    private static final int CLAUSES = 8;
    private static final int UNDOS = 8;
    private static final int LEAVES = 8;
    private static final int LEAVE_PARTS = 5;
    private static final int TEXT = 150;
    private static final int IMAGES = 2;
    private static final int MOST_PATIENCE = 99;
    private static final int MOST_WAY = 20;
    private static final int MOST_SEED = 999999;
    private static final int MOST_ASKERS = 60;

    // One who is neither dying nor behind shut doors.
    private static final int PLAIN = 0;
    // Above any way on roads: five roads of nine days are the longest.
    private static final int UNREACHED = 1000;

    private static final int KING = 0, POPE = 1, BOTH = 2;

    // Answers that stand for BAD where -2 could be an answer, and the one past the last pair.
    private static final int BAD_TEN = -10, BAD_HUNDRED = -100, NOT_SO_MANY = -5;
    private static final int FAULT = -10;

    private Land land;
    // Where a text is read to, so that a faulty one changes nothing.
    private Land draft;
    private final Land[] images;
    private final byte[] text;
    private int length;
    private int above;
    private int below;
    private int bads;
    private int nos;
    private int fulls;

    public BanLand() {
        land = new Land();
        draft = new Land();
        images = new Land[IMAGES];
        text = new byte[TEXT];
        length = 0;
        above = 0;
        below = 1;
        bads = 0;
        nos = 0;
        fulls = 0;
    }

    // ---- a land

    public int land() {
        int were = land.towns;
        land.empty();
        return were;
    }

    public int town(int reading) {
        if (!within(reading, 0, READINGS - 1)) {
            return bad(BAD);
        }
        if (land.towns >= TOWNS) {
            return full();
        }
        land.addTown(reading);
        return land.towns - 1;
    }

    public int road(int a, int b, int days) {
        if (!land.hasTown(a) || !land.hasTown(b) || a == b || !within(days, 1, MOST_ROAD)) {
            return bad(BAD);
        }
        int was = land.roadDays(a, b);
        land.setRoad(a, b, days);
        return was;
    }

    public int clause(int kind, int act, int from, int till, int town) {
        if (!within(kind, 0, KINDS - 1) || !within(act, 0, ACTS - 1) || !within(from, 0, DAYS)
                || !within(till, from, DAYS) || !within(town, 0, TOWNS - 1)) {
            return bad(BAD);
        }
        if (land.clauses >= CLAUSES) {
            return full();
        }
        land.remember();
        land.addClause(told(kind, act, from, till, town));
        return land.clauses - 1;
    }

    public int strike(int clause) {
        if (!within(clause, 0, land.clauses - 1)) {
            return bad(BAD);
        }
        land.remember();
        land.dropClause(clause);
        return land.clauses;
    }

    public int undo() {
        if (land.undoable <= 0) {
            return no();
        }
        land.goBack();
        return land.clauses;
    }

    public int type(int c) {
        if (!within(c, 0, 127)) {
            return bad(BAD);
        }
        if (length >= TEXT) {
            return full();
        }
        text[length] = (byte) c;
        length++;
        return length;
    }

    public int clear() {
        int had = length;
        length = 0;
        return had;
    }

    public int read() {
        draft.empty();
        Reader reader = new Reader(text, length, draft);
        int items = reader.items();
        if (items < 0) {
            return FAULT - reader.start;
        }
        Land old = land;
        land = draft;
        draft = old;
        return items;
    }

    public int of(int clause, int what) {
        Ban told = land.clauseAt(clause);
        if (told == null) {
            return bad(BAD);
        }
        switch (what) {
            case 0: return told.kind;
            case 1: return told.act;
            case 2: return told.from;
            case 3: return told.till;
            case 4: return told.town;
            case 5: return told.allows() ? 1 : 0;
            case 6: return told.end() - told.from;
            default: return bad(BAD);
        }
    }

    public int far(int a, int b) {
        if (!land.hasTown(a) || !land.hasTown(b)) {
            return bad(BAD);
        }
        land.measure(a);
        int days = land.away[b];
        return days < UNREACHED ? days : NONE;
    }

    // ---- what is allowed

    public int allowed(int town, int act, int day, int dying, int shut, int what) {
        if (!isAsked(town, act, day, dying, shut) || !within(what, 0, 1)) {
            return bad(BAD_TEN);
        }
        int who = asker(dying, shut);
        if (what == 1) {
            return land.decider(town, act, day, who);
        }
        return land.forbids(town, act, day, who) ? 0 : 1;
    }

    public int nearest(int town, int act, int day, int dying, int shut, int what) {
        if (!isAsked(town, act, day, dying, shut) || !within(what, 0, 2)) {
            return bad(BAD);
        }
        int who = asker(dying, shut);
        land.measure(town);
        for (int then = day; then < DAYS; then++) {
            int there = land.nearestThatAllows(act, then, who, then - day);
            if (there != NONE) {
                return what == 0 ? then : what == 1 ? there : land.away[there];
            }
        }
        return NONE;
    }

    public int contradict(int act, int day, int i) {
        if (!within(act, 0, ACTS - 1) || !within(day, 0, DAYS - 1) || i < NONE) {
            return bad(BAD_TEN);
        }
        int pairs = 0;
        for (int a = 0; a < land.towns; a++) {
            boolean forbidden = land.forbids(a, act, day, PLAIN);
            for (int b = a + 1; b < land.towns; b++) {
                if (land.forbids(b, act, day, PLAIN) != forbidden) {
                    if (pairs == i) {
                        return 10 * a + b;
                    }
                    pairs++;
                }
            }
        }
        return i == NONE ? pairs : NOT_SO_MANY;
    }

    public int settle(int acts, int day) {
        if (!within(acts, 0, ALL_ACTS) || !within(day, 0, DAYS - 1)) {
            return bad(BAD);
        }
        land.noteSpeaking(acts, day);
        int allowing = land.allowing();
        int all = (1 << land.clauses) - 1;
        // With all struck all is allowed: so the search starts from what surely agrees.
        int best = all;
        for (int struck = 0; struck < all; struck++) {
            if (Integer.bitCount(struck) < Integer.bitCount(best)
                    && land.agrees(acts, struck, allowing)) {
                best = struck;
            }
        }
        return best;
    }

    public int reads(int town, int act, int day, int dying, int shut) {
        if (!isAsked(town, act, day, dying, shut)) {
            return bad(BAD);
        }
        int speaking = land.speaking(town, act, day, asker(dying, shut));
        int allowing = land.allowing();
        int bits = 0;
        for (int reading = 0; reading < READINGS; reading++) {
            if (!forbidden(reading, speaking, allowing)) {
                bits |= 1 << reading;
            }
        }
        return bits;
    }

    // ---- who gives in

    public int patience(int k, int p, int acts, int what) {
        if (!arePatient(k, p, acts) || !within(what, 0, 1)) {
            return bad(BAD);
        }
        int day = firstDay(k, p, acts, 0);
        if (day >= DAYS) {
            return NONE;
        }
        return what == 0 ? day : whoGivesIn(k, p, acts, day);
    }

    public int concede(int clause, int k, int p, int acts) {
        if (!within(clause, 0, land.clauses - 1) || !arePatient(k, p, acts)) {
            return bad(BAD_HUNDRED);
        }
        return firstDay(k, p, acts, 1 << clause) - firstDay(k, p, acts, 0);
    }

    public int presses(int acts, int what) {
        if (!within(acts, 0, ALL_ACTS) || !within(what, 0, 1)) {
            return bad(BAD);
        }
        int hardest = NONE;
        int most = 0;
        for (int town = 0; town < land.towns; town++) {
            int days = land.daysPressed(town, acts);
            if (hardest == NONE || days > most) {
                hardest = town;
                most = days;
            }
        }
        return what == 0 ? hardest : most;
    }

    // ---- leaves

    public int leave(int town, int act, int day, int dying, int shut) {
        if (!isAsked(town, act, day, dying, shut)) {
            return bad(BAD);
        }
        if (land.leaves >= LEAVES) {
            return full();
        }
        land.addLeave(town, act, day, dying, shut);
        return land.leaves - 1;
    }

    public int burn() {
        int were = land.leaves;
        land.leaves = 0;
        return were;
    }

    public int forged() {
        int bits = 0;
        for (int leave = 0; leave < land.leaves; leave++) {
            if (land.isForged(leave)) {
                bits |= 1 << leave;
            }
        }
        return bits;
    }

    public int whose(int town, int w, int act, int day, int dying, int shut) {
        if (!isAsked(town, act, day, dying, shut) || !within(w, 0, MOST_WAY)) {
            return bad(BAD);
        }
        int who = asker(dying, shut);
        land.measure(town);
        int bits = 0;
        for (int other = 0; other < land.towns; other++) {
            if (land.away[other] <= w && !land.forbids(other, act, day, who)) {
                bits |= 1 << other;
            }
        }
        return bits;
    }

    public int odds(int town, int act, int a, int b, int dying, int shut) {
        if (!isAsked(town, act, a, dying, shut) || !within(b, a, DAYS - 1)) {
            return bad(BAD);
        }
        int who = asker(dying, shut);
        int vain = 0;
        for (int day = a; day <= b; day++) {
            if (land.forbids(town, act, day, who)) {
                vain++;
            }
        }
        int days = b - a + 1;
        int common = commonDivisor(vain, days);
        above = vain / common;
        below = days / common;
        return 1;
    }

    public int drawn(int seed, int n) {
        if (!within(seed, 0, MOST_SEED) || !within(n, 0, MOST_ASKERS)) {
            return bad(BAD);
        }
        if (land.towns <= 0) {
            return NONE;
        }
        long x = seed;
        int allowed = 0;
        for (int i = 0; i < n; i++) {
            x = nextDrawn(x);
            int town = leftOver(x, land.towns);
            x = nextDrawn(x);
            int act = leftOver(x, ACTS);
            x = nextDrawn(x);
            int day = leftOver(x, DAYS);
            x = nextDrawn(x);
            int who = leftOver(x, 4);
            if (!land.forbids(town, act, day, who)) {
                allowed++;
            }
        }
        return allowed;
    }

    // ---- what there is

    public long part(int what) {
        if (!within(what, 0, 1)) {
            return bad(BAD);
        }
        return what == 0 ? above : below;
    }

    public int image(int i) {
        if (!within(i, 0, IMAGES - 1)) {
            return bad(BAD);
        }
        Land kept = images[i];
        if (kept == null) {
            kept = new Land();
            images[i] = kept;
        }
        kept.becomeLike(land);
        return 1;
    }

    public int from(int i) {
        if (!within(i, 0, IMAGES - 1)) {
            return bad(BAD);
        }
        Land kept = images[i];
        if (kept == null) {
            return no();
        }
        land.becomeLike(kept);
        return 1;
    }

    public int status(int what) {
        switch (what) {
            case 0: return bads;
            case 1: return nos;
            case 2: return fulls;
            default: return bad(-1);
        }
    }

    public int count(int what) {
        switch (what) {
            case 0: return land.towns;
            case 1: return land.clauses;
            case 2: return land.roadsBuilt();
            case 3: return land.leaves;
            case 4: return land.undoable;
            case 5: return length;
            default: return bad(BAD);
        }
    }

    public long digest() {
        long h = 947;
        h = mixed(h, land.towns);
        h = mixed(h, land.clauses);
        h = mixed(h, land.roadsBuilt());
        h = mixed(h, land.leaves);
        h = mixed(h, land.undoable);
        h = mixed(h, length);
        h = land.mixedIn(h);
        h = mixed(h, above);
        return mixed(h, below);
    }

    // ---- refusals

    private int bad(int answer) {
        bads++;
        return answer;
    }

    private int no() {
        nos++;
        return NO;
    }

    private int full() {
        fulls++;
        return FULL;
    }

    private static boolean within(int value, int least, int most) {
        return value >= least && value <= most;
    }

    private boolean isAsked(int town, int act, int day, int dying, int shut) {
        return land.hasTown(town) && within(act, 0, ACTS - 1) && within(day, 0, DAYS - 1)
                && within(dying, 0, 1) && within(shut, 0, 1);
    }

    private static boolean arePatient(int k, int p, int acts) {
        return within(k, 0, MOST_PATIENCE) && within(p, 0, MOST_PATIENCE)
                && within(acts, 0, ALL_ACTS);
    }

    // ---- reckoning

    private static int asker(int dying, int shut) {
        return 2 * dying + shut;
    }

    // The first day on which one gives in, DAYS if none does.
    private int firstDay(int k, int p, int acts, int struck) {
        int king = k;
        int pope = p;
        for (int day = 0; day < DAYS; day++) {
            int pressing = land.townsPressing(acts, day, struck);
            king -= pressing;
            pope -= land.towns - pressing;
            if (king <= 0 || pope <= 0) {
                return day;
            }
        }
        return DAYS;
    }

    private int whoGivesIn(int k, int p, int acts, int lastDay) {
        int king = k;
        int pope = p;
        for (int day = 0; day <= lastDay; day++) {
            int pressing = land.townsPressing(acts, day, 0);
            king -= pressing;
            pope -= land.towns - pressing;
        }
        if (king > 0) {
            return POPE;
        }
        return pope > 0 ? KING : BOTH;
    }

    private static long nextDrawn(long x) {
        return (x * 1103515245L + 12345L) % 2147483648L;
    }

    private static int leftOver(long x, int by) {
        return by <= 0 ? 0 : (int) (x / 65536L % by);
    }

    // Never below 1, so that one may divide by it.
    private static int commonDivisor(int a, int b) {
        int larger = a;
        int smaller = b;
        // The larger one at least halves every two rounds: 64 are enough for any int.
        for (int round = 0; round < 64 && smaller > 0; round++) {
            int rest = larger % smaller;
            larger = smaller;
            smaller = rest;
        }
        return larger > 0 ? larger : 1;
    }

    private static long mixed(long h, long v) {
        return 31L * h + v;
    }

    // ---- clauses that speak, as bits

    private static int firstOf(int bits) {
        for (int c = 0; c < CLAUSES; c++) {
            if ((bits >> c & 1) != 0) {
                return c;
            }
        }
        return NONE;
    }

    private static int lastOf(int bits) {
        for (int c = CLAUSES - 1; c >= 0; c--) {
            if ((bits >> c & 1) != 0) {
                return c;
            }
        }
        return NONE;
    }

    private static int deciding(int reading, int speaking, int allowing) {
        int allow = speaking & allowing;
        int forbid = speaking & ~allowing;
        switch (reading) {
            case 0: return firstOf(speaking);
            case 1: return lastOf(speaking);
            case 2: return firstOf(allow != 0 ? allow : speaking);
            default:
                return firstOf(Integer.bitCount(allow) > Integer.bitCount(forbid) ? allow : forbid);
        }
    }

    private static boolean forbidden(int reading, int speaking, int allowing) {
        int clause = deciding(reading, speaking, allowing);
        return clause != NONE && (allowing >> clause & 1) == 0;
    }

    private static Ban told(int kind, int act, int from, int till, int town) {
        switch (kind) {
            case 1: return new Grace(kind, act, from, till, town);
            case 2: return new Lapsed(kind, act, from, till, town);
            case 3: return new House(kind, act, from, till, town);
            case 4: return new Dying(kind, act, from, till, town);
            case 5: return new Secret(kind, act, from, till, town);
            default: return new Ban(kind, act, from, till, town);
        }
    }

    // Clauses never change once told, so that images and what may be undone can share them.
    private static class Ban {
        final int kind;
        final int act;
        final int from;
        final int till;
        final int town;

        Ban(int kind, int act, int from, int till, int town) {
            this.kind = kind;
            this.act = act;
            this.from = from;
            this.till = till;
            this.town = town;
        }

        boolean speaksIn(int place) {
            return true;
        }

        // The first day on which it speaks no more.
        int end() {
            return till;
        }

        boolean speaksTo(int who) {
            return true;
        }

        boolean allows() {
            return false;
        }
    }

    private static class Grace extends Ban {
        Grace(int kind, int act, int from, int till, int town) {
            super(kind, act, from, till, town);
        }

        boolean allows() {
            return true;
        }
    }

    private static final class Lapsed extends Ban {
        Lapsed(int kind, int act, int from, int till, int town) {
            super(kind, act, from, till, town);
        }

        int end() {
            return from + (till - from + 1) / 2;
        }
    }

    private static class House extends Grace {
        House(int kind, int act, int from, int till, int town) {
            super(kind, act, from, till, town);
        }

        boolean speaksIn(int place) {
            return place == town;
        }
    }

    private static final class Dying extends Grace {
        Dying(int kind, int act, int from, int till, int town) {
            super(kind, act, from, till, town);
        }

        boolean speaksTo(int who) {
            return (who & 2) != 0;
        }
    }

    private static final class Secret extends House {
        Secret(int kind, int act, int from, int till, int town) {
            super(kind, act, from, till, town);
        }

        boolean speaksTo(int who) {
            return (who & 1) != 0;
        }
    }

    // All that an image keeps. Who calls has looked at towns, acts, days and clauses before.
    private static final class Land {
        int towns;
        int clauses;
        int undoable;
        int leaves;
        private final int[] readings = new int[TOWNS];
        private final int[] roads = new int[TOWNS * TOWNS];
        private final Ban[] law = new Ban[CLAUSES];
        private final Ban[] pastLaw = new Ban[UNDOS * CLAUSES];
        private final int[] pastClauses = new int[UNDOS];
        private final int[] given = new int[LEAVES * LEAVE_PARTS];
        // Rows to reckon in, made once and used again: nothing in them lasts.
        final int[] away = new int[TOWNS];
        private final int[] noted = new int[ACTS * TOWNS];

        void empty() {
            towns = 0;
            clauses = 0;
            undoable = 0;
            leaves = 0;
            for (int i = 0; i < roads.length; i++) {
                roads[i] = 0;
            }
        }

        void becomeLike(Land other) {
            towns = other.towns;
            clauses = other.clauses;
            undoable = other.undoable;
            leaves = other.leaves;
            System.arraycopy(other.readings, 0, readings, 0, readings.length);
            System.arraycopy(other.roads, 0, roads, 0, roads.length);
            moveClauses(other.law, 0, law, 0, law.length);
            moveClauses(other.pastLaw, 0, pastLaw, 0, pastLaw.length);
            System.arraycopy(other.pastClauses, 0, pastClauses, 0, pastClauses.length);
            System.arraycopy(other.given, 0, given, 0, given.length);
        }

        // Within one row only towards its start: it goes from the first one on.
        private static void moveClauses(Ban[] source, int at, Ban[] target, int to, int many) {
            for (int i = 0; i < many; i++) {
                target[to + i] = source[at + i];
            }
        }

        boolean hasTown(int town) {
            return town >= 0 && town < towns;
        }

        void addTown(int reading) {
            readings[towns] = reading;
            towns++;
        }

        int roadDays(int a, int b) {
            return roads[TOWNS * a + b];
        }

        void setRoad(int a, int b, int days) {
            roads[TOWNS * a + b] = days;
            roads[TOWNS * b + a] = days;
        }

        int roadsBuilt() {
            int many = 0;
            for (int a = 0; a < towns; a++) {
                for (int b = a + 1; b < towns; b++) {
                    if (roadDays(a, b) > 0) {
                        many++;
                    }
                }
            }
            return many;
        }

        Ban clauseAt(int clause) {
            return clause >= 0 && clause < clauses ? law[clause] : null;
        }

        void addClause(Ban clause) {
            law[clauses] = clause;
            clauses++;
        }

        void dropClause(int clause) {
            moveClauses(law, clause + 1, law, clause, clauses - clause - 1);
            clauses--;
        }

        void remember() {
            if (undoable >= UNDOS) {
                moveClauses(pastLaw, CLAUSES, pastLaw, 0, (UNDOS - 1) * CLAUSES);
                System.arraycopy(pastClauses, 1, pastClauses, 0, UNDOS - 1);
                undoable = UNDOS - 1;
            }
            moveClauses(law, 0, pastLaw, undoable * CLAUSES, CLAUSES);
            pastClauses[undoable] = clauses;
            undoable++;
        }

        void goBack() {
            undoable--;
            moveClauses(pastLaw, undoable * CLAUSES, law, 0, CLAUSES);
            clauses = pastClauses[undoable];
        }

        void addLeave(int town, int act, int day, int dying, int shut) {
            int at = LEAVE_PARTS * leaves;
            given[at] = town;
            given[at + 1] = act;
            given[at + 2] = day;
            given[at + 3] = dying;
            given[at + 4] = shut;
            leaves++;
        }

        boolean isForged(int leave) {
            int at = LEAVE_PARTS * leave;
            int who = asker(given[at + 3], given[at + 4]);
            return forbids(given[at], given[at + 1], given[at + 2], who);
        }

        // The fewest days on roads from a town to each one, into the row away.
        void measure(int town) {
            for (int other = 0; other < TOWNS; other++) {
                away[other] = other == town ? 0 : UNREACHED;
            }
            for (int roadsTaken = 1; roadsTaken < towns; roadsTaken++) {
                for (int a = 0; a < towns; a++) {
                    shortenFrom(a);
                }
            }
        }

        private void shortenFrom(int a) {
            for (int b = 0; b < towns; b++) {
                int days = roadDays(a, b);
                if (days > 0 && away[a] + days < away[b]) {
                    away[b] = away[a] + days;
                }
            }
        }

        // Reads the row away: who calls has measured it.
        int nearestThatAllows(int act, int day, int who, int most) {
            int best = NONE;
            for (int town = 0; town < towns; town++) {
                if (away[town] <= most && (best == NONE || away[town] < away[best])
                        && !forbids(town, act, day, who)) {
                    best = town;
                }
            }
            return best;
        }

        int speaking(int town, int act, int day, int who) {
            int bits = 0;
            for (int c = 0; c < clauses; c++) {
                Ban clause = law[c];
                if (clause != null && clause.act == act && day >= clause.from && day < clause.end()
                        && clause.speaksIn(town) && clause.speaksTo(who)) {
                    bits |= 1 << c;
                }
            }
            return bits;
        }

        int allowing() {
            int bits = 0;
            for (int c = 0; c < clauses; c++) {
                Ban clause = law[c];
                if (clause != null && clause.allows()) {
                    bits |= 1 << c;
                }
            }
            return bits;
        }

        int decider(int town, int act, int day, int who) {
            return deciding(readings[town], speaking(town, act, day, who), allowing());
        }

        boolean forbids(int town, int act, int day, int who) {
            return forbidden(readings[town], speaking(town, act, day, who), allowing());
        }

        private boolean forbidsOneOf(int acts, int town, int day, int struck) {
            int allowing = allowing();
            for (int act = 0; act < ACTS; act++) {
                if ((acts >> act & 1) != 0) {
                    int speaking = speaking(town, act, day, PLAIN) & ~struck;
                    if (forbidden(readings[town], speaking, allowing)) {
                        return true;
                    }
                }
            }
            return false;
        }

        int townsPressing(int acts, int day, int struck) {
            int many = 0;
            for (int town = 0; town < towns; town++) {
                if (forbidsOneOf(acts, town, day, struck)) {
                    many++;
                }
            }
            return many;
        }

        int daysPressed(int town, int acts) {
            int many = 0;
            for (int day = 0; day < DAYS; day++) {
                if (forbidsOneOf(acts, town, day, 0)) {
                    many++;
                }
            }
            return many;
        }

        // Who speaks doesn't hang on what is struck: noted once, it serves every set that is tried.
        void noteSpeaking(int acts, int day) {
            for (int act = 0; act < ACTS; act++) {
                for (int town = 0; town < towns; town++) {
                    boolean asked = (acts >> act & 1) != 0;
                    noted[TOWNS * act + town] = asked ? speaking(town, act, day, PLAIN) : 0;
                }
            }
        }

        boolean agrees(int acts, int struck, int allowing) {
            for (int act = 0; act < ACTS; act++) {
                if ((acts >> act & 1) != 0 && !agreesIn(act, struck, allowing)) {
                    return false;
                }
            }
            return true;
        }

        private boolean agreesIn(int act, int struck, int allowing) {
            boolean first = false;
            for (int town = 0; town < towns; town++) {
                int speaking = noted[TOWNS * act + town] & ~struck;
                boolean forbids = forbidden(readings[town], speaking, allowing);
                if (town == 0) {
                    first = forbids;
                } else if (forbids != first) {
                    return false;
                }
            }
            return true;
        }

        long mixedIn(long before) {
            long h = before;
            for (int town = 0; town < towns; town++) {
                h = mixed(h, readings[town]);
            }
            for (int a = 0; a < towns; a++) {
                for (int b = a + 1; b < towns; b++) {
                    h = mixed(h, roadDays(a, b));
                }
            }
            for (int c = 0; c < clauses; c++) {
                h = mixedClause(h, law[c]);
            }
            for (int i = 0; i < LEAVE_PARTS * leaves; i++) {
                h = mixed(h, given[i]);
            }
            return h;
        }

        private static long mixedClause(long before, Ban clause) {
            if (clause == null) {
                return before;
            }
            long h = mixed(before, clause.kind);
            h = mixed(h, clause.act);
            h = mixed(h, clause.from);
            h = mixed(h, clause.till);
            return mixed(h, clause.town);
        }
    }

    // Reads a text into an empty land, a token at a time. Where a token can not stand, reading
    // stays at it: its start is the fault (behind the last one it is the text's length).
    private static final class Reader {
        private static final int NOTHING = 0, END = 1, WORD = 2, NUMBER = 3, CLOSE = 4;

        private final byte[] bytes;
        private final int size;
        private final Land target;
        int start;
        private int end;
        private int token;
        private int number;

        Reader(byte[] bytes, int size, Land target) {
            this.bytes = bytes;
            this.size = size < bytes.length ? size : bytes.length;
            this.target = target;
            start = 0;
            end = 0;
            token = NOTHING;
            number = 0;
        }

        // How many there are; NONE if there is a fault.
        int items() {
            advance();
            if (!isWord("land") || !closes()) {
                return NONE;
            }
            for (int items = 1; items <= TEXT; items++) {
                if (token == END) {
                    return items;
                }
                if (!readsItem()) {
                    return NONE;
                }
            }
            return NONE;
        }

        private boolean readsItem() {
            if (isWord("town")) {
                return readsTown();
            }
            if (isWord("road")) {
                return readsRoad();
            }
            return isWord("clause") && readsClause();
        }

        private boolean readsTown() {
            if (target.towns >= TOWNS || !takes(0, READINGS - 1)) {
                return false;
            }
            int reading = number;
            if (!closes()) {
                return false;
            }
            target.addTown(reading);
            return true;
        }

        private boolean readsRoad() {
            if (!takes(0, target.towns - 1)) {
                return false;
            }
            int a = number;
            if (!takes(0, target.towns - 1) || number == a) {
                return false;
            }
            int b = number;
            if (!takes(1, MOST_ROAD)) {
                return false;
            }
            int days = number;
            if (!closes()) {
                return false;
            }
            target.setRoad(a, b, days);
            return true;
        }

        private boolean readsClause() {
            if (target.clauses >= CLAUSES || !takes(0, KINDS - 1)) {
                return false;
            }
            int kind = number;
            if (!takes(0, ACTS - 1)) {
                return false;
            }
            int act = number;
            if (!takes(0, DAYS)) {
                return false;
            }
            int from = number;
            if (!takes(from, DAYS)) {
                return false;
            }
            int till = number;
            if (!takes(0, TOWNS - 1)) {
                return false;
            }
            int town = number;
            if (!closes()) {
                return false;
            }
            target.addClause(told(kind, act, from, till, town));
            return true;
        }

        private boolean takes(int least, int most) {
            advance();
            return token == NUMBER && within(number, least, most);
        }

        private boolean closes() {
            advance();
            if (token != CLOSE) {
                return false;
            }
            advance();
            return true;
        }

        private void advance() {
            start = end;
            while (start < size && bytes[start] == ' ') {
                start++;
            }
            end = start;
            if (start >= size) {
                token = END;
            } else if (bytes[start] == ';') {
                end = start + 1;
                token = CLOSE;
            } else if (isLetter(bytes[start])) {
                while (end < size && isLetter(bytes[end])) {
                    end++;
                }
                token = WORD;
            } else {
                number = 0;
                while (end < size && isFigure(bytes[end])) {
                    // It may wrap around in a long run, which is no number anyway.
                    number = 10 * number + bytes[end] - '0';
                    end++;
                }
                token = end - start == 1 || end - start == 2 ? NUMBER : NOTHING;
            }
        }

        private boolean isWord(String word) {
            if (token != WORD || end - start != word.length()) {
                return false;
            }
            for (int i = 0; i < word.length(); i++) {
                if (bytes[start + i] != word.charAt(i)) {
                    return false;
                }
            }
            return true;
        }

        private static boolean isLetter(byte b) {
            return b >= 'a' && b <= 'z';
        }

        private static boolean isFigure(byte b) {
            return b >= '0' && b <= '9';
        }
    }
}
