// Each promise by hand: ordinary calls, the edges that the document names, wrong arguments.
public final class PromisesTest {
    private static int wrong = 0;

    private static void due(String call, long want, long got) {
        if (got != want) {
            wrong++;
            System.out.println(call + " answered " + got + ", due is " + want);
        }
    }

    public static void main(String[] args) {
        constants();
        newObject();
        land();
        town();
        road();
        clause();
        strikeAndUndo();
        text();
        readGood();
        readFaults();
        readTakesThePlace();
        of();
        far();
        kinds();
        readings();
        nearest();
        contradict();
        settle();
        patience();
        concede();
        presses();
        leaves();
        whose();
        odds();
        drawn();
        images();
        status();
        count();
        digest();
        System.out.println(wrong == 0 ? "PromisesTest: all as due" : "PromisesTest: " + wrong + " wrong");
        if (wrong != 0) {
            System.exit(1);
        }
    }

    private static BanLand towns(int... readings) {
        BanLand x = new BanLand();
        for (int reading : readings) {
            x.town(reading);
        }
        return x;
    }

    private static int readText(BanLand x, String text) {
        x.clear();
        for (int i = 0; i < text.length(); i++) {
            x.type(text.charAt(i));
        }
        return x.read();
    }

    private static void fault(int place, String text) {
        BanLand x = towns(1, 2);
        x.clause(0, 0, 0, 60, 0);
        int before = x.count(0) + 10 * x.count(1) + 100 * x.count(4);
        due("read of '" + text + "'", -10 - place, readText(x, text));
        due("what stays after '" + text + "'", before, x.count(0) + 10 * x.count(1) + 100 * x.count(4));
        due("status after '" + text + "'", 0, x.status(0) + x.status(1) + x.status(2));
    }

    private static void constants() {
        due("NONE", -1, BanLand.NONE);
        due("BAD", -2, BanLand.BAD);
        due("NO", -3, BanLand.NO);
        due("FULL", -4, BanLand.FULL);
    }

    private static void newObject() {
        BanLand x = new BanLand();
        for (int what = 0; what <= 5; what++) {
            due("new: count " + what, 0, x.count(what));
        }
        due("new: above", 0, x.part(0));
        due("new: below", 1, x.part(1));
        for (int what = 0; what <= 2; what++) {
            due("new: status " + what, 0, x.status(what));
        }
        due("new: from", -3, x.from(0));
        due("new: undo", -3, x.undo());
        due("new: forged", 0, x.forged());
    }

    private static void land() {
        BanLand x = towns(0, 1, 2);
        x.road(0, 1, 4);
        x.clause(0, 0, 0, 60, 0);
        x.leave(0, 0, 0, 0, 0);
        x.type('a');
        x.odds(0, 0, 0, 9, 0, 0);
        x.image(1);
        x.town(9);
        due("land", 3, x.land());
        due("land: towns", 0, x.count(0));
        due("land: clauses", 0, x.count(1));
        due("land: roads", 0, x.count(2));
        due("land: leaves", 0, x.count(3));
        due("land: undoable", 0, x.count(4));
        due("land: text stays", 1, x.count(5));
        due("land: fraction stays", 1, x.part(0));
        due("land: status stays", 1, x.status(0));
        due("land again", 0, x.land());
        x.town(0);
        x.town(0);
        due("land: no road is left", 0, x.road(0, 1, 1));
        due("land: images stay", 1, x.from(1));
        due("land: image's towns", 3, x.count(0));
    }

    private static void town() {
        BanLand x = new BanLand();
        due("town(-1)", -2, x.town(-1));
        due("town(4)", -2, x.town(4));
        for (int i = 0; i < 6; i++) {
            due("town " + i, i, x.town(i % 4));
        }
        due("town, BAD ahead of FULL", -2, x.town(4));
        due("a 7th town", -4, x.town(0));
        due("towns", 6, x.count(0));
        due("town: FULLs", 1, x.status(2));
        due("town: BADs", 3, x.status(0));
    }

    private static void road() {
        BanLand x = towns(0, 0, 0);
        due("road", 0, x.road(0, 1, 1));
        due("road the other way", 1, x.road(1, 0, 9));
        due("road once more", 9, x.road(0, 1, 3));
        due("another road", 0, x.road(2, 1, 2));
        due("roads", 2, x.count(2));
        due("road days 0", -2, x.road(0, 1, 0));
        due("road days 10", -2, x.road(0, 1, 10));
        due("road to itself", -2, x.road(1, 1, 1));
        due("road to none", -2, x.road(0, 3, 1));
        due("road from none", -2, x.road(-1, 0, 1));
        due("road is as it was", 3, x.road(0, 1, 3));
    }

    private static void clause() {
        BanLand x = new BanLand();
        due("kind 6", -2, x.clause(6, 0, 0, 1, 0));
        due("kind -1", -2, x.clause(-1, 0, 0, 1, 0));
        due("act 6", -2, x.clause(0, 6, 0, 1, 0));
        due("act -1", -2, x.clause(0, -1, 0, 1, 0));
        due("from -1", -2, x.clause(0, 0, -1, 1, 0));
        due("from 61", -2, x.clause(0, 0, 61, 61, 0));
        due("till 61", -2, x.clause(0, 0, 0, 61, 0));
        due("till below from", -2, x.clause(0, 0, 2, 1, 0));
        due("town 6", -2, x.clause(0, 0, 0, 1, 6));
        due("town -1", -2, x.clause(0, 0, 0, 1, -1));
        due("from 60 till 60", 0, x.clause(0, 0, 60, 60, 5));
        for (int i = 1; i < 8; i++) {
            due("clause " + i, i, x.clause(i % 6, 5, 0, 60, 5));
        }
        due("clause, BAD ahead of FULL", -2, x.clause(0, 0, 2, 1, 0));
        due("a 9th clause", -4, x.clause(0, 0, 0, 1, 0));
        due("clauses", 8, x.count(1));
        due("nothing more to undo", 8, x.count(4));
    }

    private static void strikeAndUndo() {
        BanLand x = new BanLand();
        due("strike of none", -2, x.strike(0));
        due("strike -1", -2, x.strike(-1));
        for (int i = 0; i < 4; i++) {
            x.clause(0, i, 0, 60, 0);
        }
        due("strike 1", 3, x.strike(1));
        due("those behind have a number less", 2, x.of(1, 1));
        due("and the last", 3, x.of(2, 1));
        due("no such clause", -2, x.strike(3));
        due("undo the strike", 4, x.undo());
        due("it is there again", 1, x.of(1, 1));
        due("and those behind", 3, x.of(3, 1));
        for (int i = 3; i >= 0; i--) {
            due("undo to " + i, i, x.undo());
        }
        due("no undo", -3, x.undo());
        due("NOs", 1, x.status(1));

        BanLand y = new BanLand();
        for (int i = 0; i < 5; i++) {
            y.clause(0, i, 0, 60, 0);
        }
        for (int i = 0; i < 5; i++) {
            y.strike(0);
        }
        due("8 at most", 8, y.count(4));
        int[] after = {1, 2, 3, 4, 5, 4, 3, 2};
        for (int clauses : after) {
            due("undo of many to " + clauses, clauses, y.undo());
        }
        due("the first two are past undoing", -3, y.undo());
        due("what stands then", 1, y.of(1, 1));
        y.town(0);
        due("towns can't be undone", -3, y.undo());
    }

    private static void text() {
        BanLand x = new BanLand();
        due("type -1", -2, x.type(-1));
        due("type 128", -2, x.type(128));
        due("clear of none", 0, x.clear());
        for (int i = 1; i <= 150; i++) {
            due("byte " + i, i, x.type(i % 128));
        }
        due("type: BAD ahead of FULL", -2, x.type(128));
        due("byte 151", -4, x.type(0));
        due("bytes", 150, x.count(5));
        due("clear", 150, x.clear());
        due("bytes then", 0, x.count(5));
        due("byte 1 again", 1, x.type(127));
    }

    private static void readGood() {
        BanLand x = new BanLand();
        due("land alone", 1, readText(x, "land;"));
        due("blanks all over", 4, readText(x, "  land ;  town 3 ;town 00;  road  1 0  09 ;  "));
        due("blanks: towns", 2, x.count(0));
        due("blanks: road", 9, x.far(0, 1));
        due("no blanks that aren't needed", 5, readText(x, "land;town1;town2;road1 0 5;clause4 5 0 60 5;"));
        due("the clause: kind", 4, x.of(0, 0));
        due("the clause: act", 5, x.of(0, 1));
        due("the clause: from", 0, x.of(0, 2));
        due("the clause: till", 60, x.of(0, 3));
        due("the clause: town", 5, x.of(0, 4));
        due("a road told twice", 5, readText(x, "land;town 0;town 0;road 0 1 9;road 1 0 2;"));
        due("the last one counts", 2, x.far(0, 1));
        due("it is one road", 1, x.count(2));
        due("clauses ahead of towns", 3, readText(x, "land;clause 0 0 7 7 3;town 0;"));
        due("six towns", 7, readText(x, "land;town0;town1;town2;town3;town0;town1;"));
        due("eight clauses", 9, readText(x, "land;clause0 0 0 0 0;clause0 0 0 0 0;clause0 0 0 0 0;"
                + "clause0 0 0 0 0;clause0 0 0 0 0;clause0 0 0 0 0;clause0 0 0 0 0;clause0 0 0 0 0;"));
    }

    private static void readFaults() {
        fault(0, "");
        fault(3, "   ");
        fault(4, "land");
        fault(6, "land  ");
        fault(0, "lan");
        fault(0, "lands;");
        fault(0, "landz;");
        fault(0, "aland;");
        fault(0, "Land;");
        fault(4, "land{;");
        fault(4, "land`;");
        fault(0, "town 0;");
        fault(0, ";land;");
        fault(1, " 7 land;");
        fault(5, "land;land;");
        fault(5, "land;;");
        fault(5, "land 1;");
        fault(5, "land town 0;");
        fault(5, "land;burn;");
        fault(5, "land;tow");
        fault(9, "land;town");
        fault(10, "land;town ");
        fault(9, "land;town;");
        fault(10, "land;town 4;");
        fault(10, "land;town 99;");
        fault(10, "land;town 001;");
        fault(10, "land;town 00000000001;");
        fault(9, "land;town-1;");
        fault(11, "land;town 1");
        fault(12, "land;town 1 1;");
        fault(11, "land;town 1town 1;");
        fault(10, "land;town x;");
        fault(5, "land;to\twn 1;");
        fault(9, "land;town\t1;");
        fault(4, "land\n;");
        fault(47, "land;town0;town0;town0;town0;town0;town0;      town");
        fault(41, "land;town0;town0;town0;town0;town0;town0;town 9;");
        fault(10, "land;road 0 1 1;");
        fault(19, "land;town 0;road 0 1 1;");
        fault(26, "land;town 0;town 0;road 0 0 1;");
        fault(26, "land;town 0;town 0;road 0 2 1;");
        fault(24, "land;town 0;town 0;road 2 0 1;");
        fault(28, "land;town 0;town 0;road 0 1 0;");
        fault(28, "land;town 0;town 0;road 0 1 10;");
        fault(27, "land;town 0;town 0;road 0 1;");
        fault(30, "land;town 0;town 0;road 0 1 9 9;");
        fault(12, "land;clause 6 0 0 0 0;");
        fault(14, "land;clause 0 6 0 0 0;");
        fault(16, "land;clause 0 0 61 61 0;");
        fault(18, "land;clause 0 0 0 61 0;");
        fault(19, "land;clause 0 0 20 19 0;");
        fault(20, "land;clause 0 0 0 6 6;");
        fault(21, "land;clause 0 0 0 60 6;");
        fault(19, "land;clause 0 0 0 0;");
        fault(16, "land;clause 0 0 100 0 0;");
        fault(133, "land;clause0 0 0 0 0;clause0 0 0 0 0;clause0 0 0 0 0;clause0 0 0 0 0;"
                + "clause0 0 0 0 0;clause0 0 0 0 0;clause0 0 0 0 0;clause0 0 0 0 0;clause 9;");
    }

    private static void readTakesThePlace() {
        BanLand x = towns(1, 1, 1);
        x.road(0, 2, 4);
        x.clause(1, 1, 1, 1, 1);
        x.clause(1, 1, 1, 1, 1);
        x.leave(0, 0, 0, 0, 0);
        x.clause(0, 0, 0, 60, 0);
        x.odds(0, 0, 0, 0, 0, 0);
        x.image(0);
        x.undo();
        x.type(200);
        due("read", 4, readText(x, "land;town 2;town 0;clause 0 1 2 3 4;"));
        due("read: towns", 2, x.count(0));
        due("read: clauses", 1, x.count(1));
        due("read: roads", 0, x.count(2));
        due("read: leaves", 0, x.count(3));
        due("read: undoable", 0, x.count(4));
        due("read: text stays", 36, x.count(5));
        due("read: fraction stays", 1, x.part(0));
        due("read: status stays", 1, x.status(0));
        due("read: image stays", 1, x.from(0));
        due("read: image's towns", 3, x.count(0));
        due("read: image's clauses", 3, x.count(1));
        due("read: image's leaves", 1, x.count(3));
        due("read: image's undo", 2, x.undo());
        due("read: a second time the same", 4, x.read());
        due("read: then", 2, x.count(0));
    }

    private static void of() {
        BanLand x = new BanLand();
        for (int kind = 0; kind < 6; kind++) {
            x.clause(kind, 5 - kind, kind, 10 + 2 * kind + 1, kind);
        }
        int[] allows = {0, 1, 0, 1, 1, 1};
        int[] days = {11, 12, 7, 14, 15, 16};
        for (int kind = 0; kind < 6; kind++) {
            due("of kind", kind, x.of(kind, 0));
            due("of act", 5 - kind, x.of(kind, 1));
            due("of from", kind, x.of(kind, 2));
            due("of till", 10 + 2 * kind + 1, x.of(kind, 3));
            due("of town", kind, x.of(kind, 4));
            due("of allows " + kind, allows[kind], x.of(kind, 5));
            due("of days " + kind, days[kind], x.of(kind, 6));
        }
        due("of what 7", -2, x.of(0, 7));
        due("of what -1", -2, x.of(0, -1));
        due("of clause 6", -2, x.of(6, 0));
        due("of clause -1", -2, x.of(-1, 0));
        x.clause(2, 0, 8, 8, 0);
        due("none lapses", 0, x.of(6, 6));
        due("of: BADs", 4, x.status(0));
    }

    private static void far() {
        BanLand x = towns(0, 0, 0, 0, 0);
        x.road(0, 1, 9);
        x.road(0, 2, 2);
        x.road(2, 3, 2);
        x.road(3, 1, 2);
        due("by three roads", 6, x.far(0, 1));
        due("either way", 6, x.far(1, 0));
        due("at home", 0, x.far(2, 2));
        due("no way", -1, x.far(0, 4));
        due("no town", -2, x.far(0, 5));
        due("no town there", -2, x.far(-1, 0));
        x.road(3, 1, 9);
        due("the last one told counts", 9, x.far(0, 1));
    }

    // One clause of a kind over a ban of like days: where, when, to whom it speaks.
    private static void kinds() {
        for (int kind = 0; kind < 6; kind++) {
            BanLand x = towns(0, 0);
            x.clause(kind, 2, 10, 15, 1);
            x.clause(0, 2, 10, 15, 0);
            for (int town = 0; town < 2; town++) {
                for (int day = 9; day <= 15; day++) {
                    for (int who = 0; who < 4; who++) {
                        boolean speaks = day >= 10 && day < (kind == 2 ? 13 : 15)
                                && (kind != 3 && kind != 5 || town == 1)
                                && (kind != 4 || who / 2 == 1) && (kind != 5 || who % 2 == 1);
                        boolean banned = day >= 10 && day < 15;
                        int by = speaks ? 0 : banned ? 1 : -1;
                        boolean may = speaks ? kind % 2 == 1 || kind == 4 : !banned;
                        due("kind " + kind + " by", by, x.allowed(town, 2, day, who / 2, who % 2, 1));
                        due("kind " + kind, may ? 1 : 0, x.allowed(town, 2, day, who / 2, who % 2, 0));
                        due("another act", -1, x.allowed(town, 3, day, who / 2, who % 2, 1));
                        due("another act may be", 1, x.allowed(town, 3, day, who / 2, who % 2, 0));
                    }
                }
            }
        }
        BanLand x = towns(0);
        due("allowed: town", -10, x.allowed(1, 0, 0, 0, 0, 0));
        due("allowed: town -1", -10, x.allowed(-1, 0, 0, 0, 0, 0));
        due("allowed: act", -10, x.allowed(0, 6, 0, 0, 0, 0));
        due("allowed: day", -10, x.allowed(0, 0, 60, 0, 0, 0));
        due("allowed: day -1", -10, x.allowed(0, 0, -1, 0, 0, 0));
        due("allowed: dying", -10, x.allowed(0, 0, 0, -1, 0, 0));
        due("allowed: shut", -10, x.allowed(0, 0, 0, 0, 2, 0));
        due("allowed: what", -10, x.allowed(0, 0, 0, 0, 0, 2));
        due("allowed: BADs", 8, x.status(0));
    }

    private static void readings() {
        // What speaks, in order (0 forbids, 1 allows), and which one decides by each reading.
        int[][] speaking = {{}, {0}, {1}, {0, 1}, {1, 0}, {0, 1, 1}, {1, 0, 1}, {0, 0, 1}, {1, 1, 0, 0}};
        int[][] deciders = {{-1, -1, -1, -1}, {0, 0, 0, 0}, {0, 0, 0, 0}, {0, 1, 1, 0}, {0, 1, 0, 1},
            {0, 2, 1, 1}, {0, 2, 0, 0}, {0, 2, 2, 0}, {0, 3, 0, 2}};
        for (int i = 0; i < speaking.length; i++) {
            BanLand x = towns(0, 1, 2, 3);
            // One of another act ahead of all shifts the numbers.
            x.clause(0, 5, 0, 60, 0);
            for (int kind : speaking[i]) {
                x.clause(kind, 0, 0, 60, 0);
            }
            int bits = 0;
            for (int reading = 0; reading < 4; reading++) {
                int by = deciders[i][reading];
                boolean may = by < 0 || speaking[i][by] == 1;
                bits |= may ? 1 << reading : 0;
                due("case " + i + " by reading " + reading, by < 0 ? -1 : by + 1, x.allowed(reading, 0, 7, 0, 0, 1));
                due("case " + i + " reading " + reading, may ? 1 : 0, x.allowed(reading, 0, 7, 0, 0, 0));
            }
            for (int town = 0; town < 4; town++) {
                due("reads, case " + i, bits, x.reads(town, 0, 7, 0, 0));
            }
            due("reads: town", -2, x.reads(4, 0, 7, 0, 0));
            due("reads: act", -2, x.reads(0, -1, 7, 0, 0));
            due("reads: day", -2, x.reads(0, 0, 60, 0, 0));
            due("reads: dying", -2, x.reads(0, 0, 0, 2, 0));
            due("reads: shut", -2, x.reads(0, 0, 0, 0, -1));
        }
    }

    private static void nearestIs(BanLand x, int town, int day, int dying, int wantDay, int wantTown, int wantFar) {
        String call = "nearest from " + town + " on " + day + " dying " + dying;
        due(call + " day", wantDay, x.nearest(town, 0, day, dying, 0, 0));
        due(call + " town", wantTown, x.nearest(town, 0, day, dying, 0, 1));
        due(call + " way", wantFar, x.nearest(town, 0, day, dying, 0, 2));
    }

    private static void nearest() {
        BanLand x = towns(0, 0, 0, 0, 0);
        x.road(0, 1, 5);
        x.road(0, 2, 3);
        x.road(0, 3, 3);
        x.clause(3, 0, 20, 30, 1);
        x.clause(3, 0, 24, 30, 2);
        x.clause(3, 0, 24, 30, 3);
        x.clause(3, 0, 0, 60, 4);
        x.clause(4, 0, 40, 41, 0);
        x.clause(0, 0, 0, 60, 0);
        nearestIs(x, 0, 0, 0, 20, 1, 5);
        nearestIs(x, 0, 15, 0, 20, 1, 5);
        nearestIs(x, 0, 16, 0, 21, 1, 5);
        nearestIs(x, 0, 20, 0, 24, 2, 3);
        nearestIs(x, 0, 26, 0, 29, 2, 3);
        nearestIs(x, 0, 27, 0, -1, -1, -1);
        nearestIs(x, 0, 27, 1, 40, 0, 0);
        nearestIs(x, 3, 27, 0, 27, 3, 0);
        nearestIs(x, 1, 39, 1, 40, 1, 0);
        nearestIs(x, 4, 59, 0, 59, 4, 0);
        nearestIs(x, 0, 41, 1, -1, -1, -1);
        due("nearest of a free act", 7, x.nearest(2, 1, 7, 0, 0, 0));
        due("nearest: town", -2, x.nearest(5, 0, 0, 0, 0, 0));
        due("nearest: act", -2, x.nearest(0, 6, 0, 0, 0, 0));
        due("nearest: day", -2, x.nearest(0, 0, 60, 0, 0, 0));
        due("nearest: dying", -2, x.nearest(0, 0, 0, 2, 0, 0));
        due("nearest: shut", -2, x.nearest(0, 0, 0, 0, 2, 0));
        due("nearest: what", -2, x.nearest(0, 0, 0, 0, 0, 3));
        due("nearest: what -1", -2, x.nearest(0, 0, 0, 0, 0, -1));
    }

    private static void contradict() {
        BanLand x = towns(0, 1, 0, 1, 0);
        x.clause(0, 3, 10, 20, 0);
        x.clause(1, 3, 10, 20, 0);
        int[] pairs = {1, 3, 12, 14, 23, 34};
        due("pairs", 6, x.contradict(3, 10, -1));
        for (int i = 0; i < pairs.length; i++) {
            due("pair " + i, pairs[i], x.contradict(3, 10, i));
        }
        due("not so many", -5, x.contradict(3, 10, 6));
        due("not so many at all", -5, x.contradict(3, 10, Integer.MAX_VALUE));
        due("all alike", 0, x.contradict(3, 20, -1));
        due("it is no refusal", 0, x.status(0) + x.status(1) + x.status(2));
        due("contradict: act", -10, x.contradict(6, 0, -1));
        due("contradict: day", -10, x.contradict(0, 60, -1));
        due("contradict: i", -10, x.contradict(0, 0, -2));
        due("contradict: BADs", 3, x.status(0));
        BanLand y = towns(0, 1);
        y.clause(0, 0, 0, 60, 0);
        y.clause(4, 0, 0, 60, 0);
        y.clause(5, 0, 0, 60, 1);
        due("as to one not dying, not behind shut doors", 0, y.contradict(0, 0, -1));
    }

    private static void settle() {
        BanLand x = towns(0, 1);
        x.clause(0, 0, 0, 60, 0);
        x.clause(1, 0, 0, 60, 0);
        due("of like ones the least", 1, x.settle(1, 5));
        x.clause(0, 1, 0, 60, 0);
        x.clause(0, 1, 0, 60, 0);
        x.clause(1, 1, 0, 60, 0);
        due("one clause less of the second act", 16, x.settle(2, 5));
        due("both acts", 17, x.settle(3, 5));
        due("no act", 0, x.settle(0, 5));
        due("no clause of these acts", 0, x.settle(60, 5));
        due("settle: acts", -2, x.settle(64, 0));
        due("settle: acts -1", -2, x.settle(-1, 0));
        due("settle: day", -2, x.settle(0, 60));
        due("settle: day -1", -2, x.settle(0, -1));
        due("no towns", 0, new BanLand().settle(63, 0));
        BanLand y = towns(0, 1);
        for (int act = 0; act < 4; act++) {
            y.clause(0, act, 0, 30, 0);
            y.clause(1, act, 0, 30, 0);
        }
        due("the one that lets two agree", 1 + 4 + 16 + 64, y.settle(63, 29));
        due("past their days", 0, y.settle(63, 30));
    }

    private static void patience() {
        BanLand x = towns(0, 0, 0);
        x.clause(3, 0, 0, 60, 0);
        x.clause(0, 0, 10, 20, 0);
        x.clause(0, 1, 15, 16, 0);
        // From day 10 on two towns press, on day 15 all three do, if act 1 is asked too.
        due("pope at once", 0, x.patience(99, 3, 1, 0));
        due("it is he", 1, x.patience(99, 3, 1, 1));
        due("pope on day 1", 1, x.patience(99, 4, 1, 0));
        due("king first on day 10", 10, x.patience(2, 99, 1, 0));
        due("it is the king", 0, x.patience(2, 99, 1, 1));
        due("both on day 10", 10, x.patience(2, 31, 1, 0));
        due("it is both", 2, x.patience(2, 31, 1, 1));
        due("without act 1 on day 16", 16, x.patience(13, 99, 1, 0));
        due("with it on day 15", 15, x.patience(13, 99, 3, 0));
        due("none left at first", 0, x.patience(0, 99, 1, 0));
        due("the king", 0, x.patience(0, 99, 1, 1));
        due("no act: the pope's day", 32, x.patience(99, 99, 0, 0));
        BanLand none = new BanLand();
        due("no towns: none", -1, none.patience(1, 1, 63, 0));
        due("no towns: no one", -1, none.patience(1, 1, 63, 1));
        BanLand one = towns(0);
        due("60 days", 59, one.patience(99, 60, 63, 0));
        due("61 days", -1, one.patience(99, 61, 63, 0));
        due("61 days, who", -1, one.patience(99, 61, 63, 1));
        due("patience: k", -2, one.patience(100, 0, 0, 0));
        due("patience: k -1", -2, one.patience(-1, 0, 0, 0));
        due("patience: p", -2, one.patience(0, 100, 0, 0));
        due("patience: p -1", -2, one.patience(0, -1, 0, 0));
        due("patience: acts", -2, one.patience(0, 0, 64, 0));
        due("patience: what", -2, one.patience(0, 0, 0, 2));
        BanLand dying = towns(2);
        dying.clause(0, 0, 0, 60, 0);
        dying.clause(4, 0, 0, 60, 0);
        dying.clause(5, 0, 0, 60, 0);
        due("as to one not dying, not behind shut doors", 0, dying.patience(1, 99, 1, 1));
    }

    private static void concede() {
        BanLand x = towns(0);
        x.clause(0, 0, 0, 60, 0);
        due("till the pope's", 50 - 10, x.concede(0, 11, 51, 1));
        due("till none gives in", 60 - 10, x.concede(0, 11, 99, 1));
        due("sooner", 4 - 10, x.concede(0, 11, 5, 1));
        due("of another act", 0, x.concede(0, 11, 99, 2));
        due("nothing is struck", 1, x.count(1));
        x.clause(1, 0, 0, 60, 0);
        due("the first one falls: the grace decides", 49, x.concede(0, 11, 99 - 39 + 0, 1));
        due("the second one does nothing", 0, x.concede(1, 11, 99, 1));
        due("concede: clause", -100, x.concede(2, 0, 0, 0));
        due("concede: clause -1", -100, x.concede(-1, 0, 0, 0));
        due("concede: k", -100, x.concede(0, 100, 0, 0));
        due("concede: p", -100, x.concede(0, 0, 100, 0));
        due("concede: acts", -100, x.concede(0, 0, 0, 64));
        due("concede: BADs", 5, x.status(0));
    }

    private static void presses() {
        BanLand x = towns(0, 0, 1);
        x.clause(3, 0, 5, 10, 0);
        x.clause(0, 0, 0, 20, 0);
        x.clause(0, 1, 19, 22, 0);
        due("the first of like ones", 1, x.presses(1, 0));
        due("on 20", 20, x.presses(1, 1));
        due("days, not acts", 22, x.presses(3, 1));
        due("on none: the first", 0, x.presses(4, 0));
        due("on none", 0, x.presses(4, 1));
        due("no towns", -1, new BanLand().presses(63, 0));
        due("no towns' days", 0, new BanLand().presses(63, 1));
        due("presses: acts", -2, x.presses(64, 0));
        due("presses: acts -1", -2, x.presses(-1, 0));
        due("presses: what", -2, x.presses(0, 2));
    }

    private static void leaves() {
        BanLand x = towns(0, 0);
        due("leave 0", 0, x.leave(0, 0, 10, 0, 0));
        due("leave 1", 1, x.leave(1, 0, 10, 0, 0));
        due("leave 2", 2, x.leave(0, 0, 10, 1, 0));
        due("leave 3", 3, x.leave(0, 0, 10, 0, 1));
        due("leave 4", 4, x.leave(0, 0, 11, 0, 0));
        due("leave 5", 5, x.leave(0, 1, 10, 0, 0));
        due("none is forged", 0, x.forged());
        x.clause(4, 0, 0, 60, 0);
        x.clause(0, 0, 10, 11, 0);
        due("forged", 1 + 2 + 8, x.forged());
        due("leave: town", -2, x.leave(2, 0, 0, 0, 0));
        due("leave: act", -2, x.leave(0, 6, 0, 0, 0));
        due("leave: day", -2, x.leave(0, 0, 60, 0, 0));
        due("leave: dying", -2, x.leave(0, 0, 0, 2, 0));
        due("leave: shut", -2, x.leave(0, 0, 0, 0, 2));
        x.leave(0, 0, 0, 0, 0);
        due("leave 7", 7, x.leave(0, 0, 10, 0, 0));
        due("forged then", 1 + 2 + 8 + 128, x.forged());
        due("leave: BAD ahead of FULL", -2, x.leave(2, 0, 0, 0, 0));
        due("a 9th leave", -4, x.leave(0, 0, 0, 0, 0));
        due("burn", 8, x.burn());
        due("burn again", 0, x.burn());
        due("forged no more", 0, x.forged());
        due("a leave again", 0, x.leave(0, 0, 0, 0, 0));
    }

    private static void whose() {
        BanLand x = towns(0, 0, 0, 0);
        x.road(0, 1, 9);
        x.road(1, 2, 9);
        x.clause(3, 0, 0, 60, 0);
        x.clause(3, 0, 0, 60, 2);
        x.clause(4, 0, 0, 60, 0);
        x.clause(0, 0, 0, 60, 0);
        due("at home alone", 1, x.whose(0, 0, 0, 3, 0, 0));
        due("within 17", 1, x.whose(0, 17, 0, 3, 0, 0));
        due("within 18", 5, x.whose(0, 18, 0, 3, 0, 0));
        due("of the dying", 7, x.whose(0, 20, 0, 3, 1, 0));
        due("from one that has no road", 8, x.whose(3, 20, 0, 3, 1, 0));
        due("nobody", 0, x.whose(1, 8, 0, 3, 0, 0));
        due("whose: town", -2, x.whose(4, 0, 0, 0, 0, 0));
        due("whose: w", -2, x.whose(0, 21, 0, 0, 0, 0));
        due("whose: w -1", -2, x.whose(0, -1, 0, 0, 0, 0));
        due("whose: act", -2, x.whose(0, 0, 6, 0, 0, 0));
        due("whose: day", -2, x.whose(0, 0, 0, 60, 0, 0));
        due("whose: dying", -2, x.whose(0, 0, 0, 0, 2, 0));
        due("whose: shut", -2, x.whose(0, 0, 0, 0, 0, 2));
    }

    private static void fractionIs(BanLand x, int above, int below) {
        due("above", above, x.part(0));
        due("below", below, x.part(1));
    }

    private static void odds() {
        BanLand x = towns(0);
        x.clause(0, 0, 10, 40, 0);
        due("odds", 1, x.odds(0, 0, 0, 59, 0, 0));
        fractionIs(x, 1, 2);
        x.odds(0, 0, 9, 11, 0, 0);
        fractionIs(x, 2, 3);
        x.odds(0, 0, 10, 10, 0, 0);
        fractionIs(x, 1, 1);
        x.odds(0, 0, 40, 59, 0, 0);
        fractionIs(x, 0, 1);
        x.odds(0, 0, 5, 16, 0, 0);
        fractionIs(x, 7, 12);
        due("odds: town", -2, x.odds(1, 0, 0, 0, 0, 0));
        due("odds: act", -2, x.odds(0, 6, 0, 0, 0, 0));
        due("odds: a", -2, x.odds(0, 0, -1, 0, 0, 0));
        due("odds: b", -2, x.odds(0, 0, 0, 60, 0, 0));
        due("odds: a above b", -2, x.odds(0, 0, 2, 1, 0, 0));
        due("odds: dying", -2, x.odds(0, 0, 0, 0, 2, 0));
        due("odds: shut", -2, x.odds(0, 0, 0, 0, 0, 2));
        fractionIs(x, 7, 12);
        due("part 2", -2, x.part(2));
        due("part -1", -2, x.part(-1));
        due("odds: BADs", 9, x.status(0));
    }

    private static void drawn() {
        BanLand x = towns(0);
        due("all are allowed", 60, x.drawn(5, 60));
        for (int act = 0; act < 6; act++) {
            x.clause(0, act, 0, 60, 0);
        }
        due("none is", 0, x.drawn(999999, 60));
        x.strike(drawnAct(1));
        due("the one drawn", 1, x.drawn(1, 1));
        due("of none", 0, x.drawn(1, 0));
        due("drawn: seed", -2, x.drawn(1000000, 0));
        due("drawn: seed -1", -2, x.drawn(-1, 0));
        due("drawn: n", -2, x.drawn(0, 61));
        due("drawn: n -1", -2, x.drawn(0, -1));
        due("no towns", -1, new BanLand().drawn(0, 0));
        BanLand y = new BanLand();
        due("no towns, BAD first", -2, y.drawn(0, 61));
    }

    private static int drawnAct(long seed) {
        long x = (seed * 1103515245L + 12345) & 0x7fffffffL;
        x = (x * 1103515245L + 12345) & 0x7fffffffL;
        return (int) ((x >> 16) % 6);
    }

    private static void images() {
        BanLand x = towns(0, 1);
        x.road(0, 1, 7);
        x.clause(0, 0, 0, 60, 0);
        x.leave(1, 2, 3, 1, 0);
        due("image", 1, x.image(0));
        due("image 2", -2, x.image(2));
        due("image -1", -2, x.image(-1));
        due("from 2", -2, x.from(2));
        due("from one not kept", -3, x.from(1));
        long kept = x.digest();
        x.road(0, 1, 2);
        x.clause(1, 0, 0, 60, 0);
        x.strike(0);
        x.burn();
        x.town(3);
        due("from", 1, x.from(0));
        due("all is as it was", kept, x.digest());
        x.clause(1, 5, 0, 60, 0);
        x.leave(0, 0, 0, 0, 0);
        due("from once more", 1, x.from(0));
        due("the image has not changed", kept, x.digest());
        due("what may be undone is kept", 0, x.undo());
        x.image(1);
        x.from(0);
        x.type('x');
        x.odds(0, 0, 0, 0, 0, 0);
        x.from(1);
        due("the text is not kept", 1, x.count(5));
        due("the fraction is not kept", 1, x.part(0));
        due("status is not kept", 3, x.status(0));
        due("the other image", 0, x.count(1));
        due("the first image stays", 1, x.from(0));
        due("with its clause", 1, x.count(1));
        x.image(0);
        x.land();
        x.image(0);
        x.from(0);
        due("an image is kept anew", 0, x.count(0));
    }

    private static void status() {
        BanLand x = new BanLand();
        due("another what", -1, x.status(3));
        due("counts as BAD", 1, x.status(0));
        due("what -1", -1, x.status(-1));
        x.undo();
        x.undo();
        x.undo();
        for (int i = 0; i < 8; i++) {
            x.town(0);
        }
        x.allowed(9, 0, 0, 0, 0, 0);
        x.concede(0, 0, 0, 0);
        x.contradict(0, 0, -2);
        x.contradict(0, 0, 5);
        x.read();
        x.nearest(0, 0, 0, 0, 0, 0);
        due("BADs", 5, x.status(0));
        due("NOs", 3, x.status(1));
        due("FULLs", 2, x.status(2));
    }

    private static void count() {
        BanLand x = towns(0, 0, 0);
        x.road(0, 1, 1);
        x.road(1, 2, 1);
        x.clause(0, 0, 0, 0, 0);
        x.clause(0, 0, 0, 0, 0);
        x.strike(0);
        x.leave(0, 0, 0, 0, 0);
        x.leave(0, 0, 0, 0, 0);
        x.type(1);
        int[] want = {3, 1, 2, 2, 3, 1};
        for (int what = 0; what < 6; what++) {
            due("count " + what, want[what], x.count(what));
        }
        due("count 6", -2, x.count(6));
        due("count -1", -2, x.count(-1));
    }

    private static long mix(long... values) {
        long h = 947;
        for (long v : values) {
            h = 31 * h + v;
        }
        return h;
    }

    private static void digest() {
        BanLand x = new BanLand();
        due("digest of nothing", mix(0, 0, 0, 0, 0, 0, 0, 1), x.digest());
        x.town(3);
        x.town(1);
        x.town(2);
        x.road(2, 0, 5);
        x.road(2, 1, 4);
        x.clause(5, 4, 3, 20, 1);
        x.clause(0, 1, 2, 3, 4);
        x.leave(2, 5, 59, 1, 0);
        x.leave(0, 1, 30, 0, 1);
        x.type('q');
        x.odds(0, 1, 0, 4, 0, 0);
        long want = mix(3, 2, 2, 2, 2, 1, 3, 1, 2, 0, 5, 4, 5, 4, 3, 20, 1, 0, 1, 2, 3, 4,
                2, 5, 59, 1, 0, 0, 1, 30, 0, 1, 1, 5);
        due("digest", want, x.digest());
        x.status(0);
        x.town(7);
        due("status is not in it", want, x.digest());
    }
}
