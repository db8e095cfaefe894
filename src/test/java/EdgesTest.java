import java.math.BigInteger;
import java.util.ArrayList;
import java.util.List;
import java.util.function.Supplier;

// The edges, promise by promise: too small, too large, empty, full, a wrap-around, a refused call.
// What a text can hold is in TextEdgesTest.
public final class EdgesTest {
    private static final int BADS = 0, NOS = 1, FULLS = 2;
    private static final String TOLD = "land;town 3;town 2;road 0 1 9;clause 5 5 59 60 5;";

    private static int wrong = 0;

    // A call with its arguments.
    private interface Call {
        long on(BanLand x, int... a);
    }

    public static void main(String[] args) {
        argumentsOfALand();
        argumentsOfWhatIsAllowed();
        argumentsOfLeaves();
        argumentsOfWhatThereIs();
        askingChangesNothing();
        onNothing();
        calls();
        newObject();
        land();
        town();
        road();
        clause();
        strike();
        undo();
        undoEight();
        type();
        clear();
        of();
        lapsed();
        far();
        allowedByDays();
        allowedByKinds();
        allowedByReadings();
        nearestByDays();
        nearestOfLikeOnes();
        forAnAsker();
        contradict();
        settle();
        reads();
        patience();
        patienceOfNone();
        concede();
        presses();
        leave();
        forged();
        whose();
        odds();
        drawn();
        drawnAsTold();
        images();
        imagesAreWhole();
        from();
        status();
        count();
        digest();
        System.out.println(wrong == 0 ? "EdgesTest: all as due" : "EdgesTest: " + wrong + " wrong");
        if (wrong != 0) {
            System.exit(1);
        }
    }

    private static void due(String what, long want, long got) {
        if (got != want) {
            wrong++;
            System.out.println(what + ": answered " + got + ", due is " + want);
        }
    }

    // ---- lands to ask

    private static BanLand towns(int... readings) {
        BanLand x = new BanLand();
        for (int reading : readings) {
            x.town(reading);
        }
        return x;
    }

    private static void tell(BanLand x, String text) {
        for (int i = 0; i < text.length(); i++) {
            x.type(text.charAt(i));
        }
    }

    // Something of everything, and room for more.
    private static BanLand some() {
        BanLand x = towns(0, 1, 2);
        x.road(0, 1, 4);
        x.clause(0, 0, 0, 60, 0);
        x.leave(2, 5, 59, 1, 1);
        x.image(0);
        x.road(1, 2, 9);
        x.clause(1, 0, 10, 20, 0);
        x.clause(2, 1, 0, 9, 2);
        x.image(1);
        x.clause(3, 0, 5, 40, 2);
        x.leave(0, 0, 0, 0, 0);
        x.odds(1, 0, 0, 14, 0, 0);
        tell(x, TOLD);
        return x;
    }

    // As much of everything as may be.
    private static BanLand full() {
        BanLand x = towns(0, 1, 2, 3, 0, 1);
        for (int a = 0; a < 6; a++) {
            for (int b = a + 1; b < 6; b++) {
                x.road(a, b, 1 + (a * b + b) % 9);
            }
        }
        for (int i = 0; i < 8; i++) {
            x.clause(i % 6, i / 2, i, 60 - i, i % 6);
            x.leave(i % 6, i / 2, 7 * i, i % 2, i / 4);
        }
        x.image(0);
        x.strike(0);
        x.image(1);
        x.clause(0, 5, 60, 60, 5);
        x.odds(0, 3, 0, 59, 0, 0);
        tell(x, TOLD);
        while (x.count(5) < 150) {
            x.type(' ');
        }
        return x;
    }

    // ---- what can be seen of a land: it is used up by that

    private static List<Long> seen(BanLand x) {
        List<Long> all = new ArrayList<>();
        all.add(x.part(0));
        all.add(x.part(1));
        unwind(x, all);
        for (int i = 0; i < 2; i++) {
            all.add((long) x.from(i));
            unwind(x, all);
        }
        all.add((long) x.read());
        unwind(x, all);
        return all;
    }

    private static void unwind(BanLand x, List<Long> all) {
        all.add(x.digest());
        for (int i = 0; i < 9; i++) {
            all.add((long) x.undo());
            all.add(x.digest());
        }
    }

    private static void alike(String what, BanLand want, BanLand got) {
        List<Long> due = seen(want);
        List<Long> is = seen(got);
        if (!due.equals(is)) {
            wrong++;
            System.out.println(what + ": what is seen then is " + is + ", due is " + due);
        }
    }

    // "Refused, changing nothing but STATUS".
    private static void refused(String what, Supplier<BanLand> made, long answer, int as, Call call, int... a) {
        BanLand plain = made.get();
        BanLand x = made.get();
        due(what, answer, call.on(x, a));
        for (int i = 0; i < 3; i++) {
            due(what + ": status " + i, plain.status(i) + (i == as ? 1 : 0), x.status(i));
        }
        alike(what + " is refused", plain, x);
    }

    private static void bad(String what, Supplier<BanLand> made, Call call, int... a) {
        refused(what, made, -2, BADS, call, a);
    }

    private static void taken(String what, Supplier<BanLand> made, Call call, int... a) {
        BanLand x = made.get();
        int before = x.status(0) + x.status(1) + x.status(2);
        call.on(x, a);
        due(what + " is no refusal", before, x.status(0) + x.status(1) + x.status(2));
    }

    private static void unchanged(String what, Supplier<BanLand> made, Call call, int... a) {
        BanLand x = made.get();
        call.on(x, a);
        taken(what, made, call, a);
        alike(what + " changes nothing", made.get(), x);
    }

    // Each argument at its least and its most, past both by one, and at the ends of int.
    private static void arguments(String name, Supplier<BanLand> made, int answer, Call call,
            int[] base, int[] least, int[] most) {
        for (int i = 0; i < base.length; i++) {
            String what = name + ", argument " + i + " is ";
            for (int good : new int[] {least[i], most[i]}) {
                taken(what + good, made, call, with(base, i, good));
            }
            for (int poor : new int[] {least[i] - 1, Integer.MIN_VALUE, most[i] + 1, Integer.MAX_VALUE}) {
                if (poor < least[i] || poor > most[i]) {
                    refused(what + poor, made, answer, BADS, call, with(base, i, poor));
                }
            }
        }
    }

    private static int[] with(int[] base, int i, int value) {
        int[] all = base.clone();
        all[i] = value;
        return all;
    }

    private static int[] row(int... values) {
        return values;
    }

    // ---- "a number is not as told", of every call

    private static void argumentsOfALand() {
        arguments("town", EdgesTest::some, -2, (x, a) -> x.town(a[0]), row(1), row(0), row(3));
        arguments("road", EdgesTest::full, -2, (x, a) -> x.road(a[0], a[1], a[2]),
                row(1, 4, 5), row(0, 0, 1), row(5, 5, 9));
        arguments("road of three", EdgesTest::some, -2, (x, a) -> x.road(a[0], a[1], a[2]),
                row(0, 1, 5), row(0, 1, 1), row(0, 2, 9));
        arguments("clause", EdgesTest::some, -2, (x, a) -> x.clause(a[0], a[1], a[2], a[3], a[4]),
                row(0, 0, 0, 60, 0), row(0, 0, 0, 0, 0), row(5, 5, 60, 60, 5));
        arguments("strike of eight", EdgesTest::full, -2, (x, a) -> x.strike(a[0]), row(3), row(0), row(7));
        arguments("strike of four", EdgesTest::some, -2, (x, a) -> x.strike(a[0]), row(3), row(0), row(3));
        arguments("type", EdgesTest::some, -2, (x, a) -> x.type(a[0]), row('a'), row(0), row(127));
        arguments("of", EdgesTest::full, -2, (x, a) -> x.of(a[0], a[1]), row(0, 0), row(0, 0), row(7, 6));
        arguments("of one of four", EdgesTest::some, -2, (x, a) -> x.of(a[0], a[1]),
                row(0, 0), row(0, 0), row(3, 6));
        arguments("far", EdgesTest::full, -2, (x, a) -> x.far(a[0], a[1]), row(0, 5), row(0, 0), row(5, 5));
        arguments("far of three", EdgesTest::some, -2, (x, a) -> x.far(a[0], a[1]),
                row(0, 1), row(0, 0), row(2, 2));
    }

    private static void argumentsOfWhatIsAllowed() {
        arguments("allowed", EdgesTest::full, -10, (x, a) -> x.allowed(a[0], a[1], a[2], a[3], a[4], a[5]),
                row(2, 0, 30, 0, 0, 0), row(0, 0, 0, 0, 0, 0), row(5, 5, 59, 1, 1, 1));
        arguments("nearest", EdgesTest::some, -2, (x, a) -> x.nearest(a[0], a[1], a[2], a[3], a[4], a[5]),
                row(1, 0, 30, 0, 0, 0), row(0, 0, 0, 0, 0, 0), row(2, 5, 59, 1, 1, 2));
        arguments("contradict", EdgesTest::full, -10, (x, a) -> x.contradict(a[0], a[1], a[2]),
                row(0, 30, 0), row(0, 0, -1), row(5, 59, Integer.MAX_VALUE));
        arguments("settle", EdgesTest::full, -2, (x, a) -> x.settle(a[0], a[1]),
                row(1, 30), row(0, 0), row(63, 59));
        arguments("reads", EdgesTest::some, -2, (x, a) -> x.reads(a[0], a[1], a[2], a[3], a[4]),
                row(1, 0, 30, 0, 0), row(0, 0, 0, 0, 0), row(2, 5, 59, 1, 1));
        arguments("patience", EdgesTest::full, -2, (x, a) -> x.patience(a[0], a[1], a[2], a[3]),
                row(50, 50, 1, 0), row(0, 0, 0, 0), row(99, 99, 63, 1));
        arguments("concede", EdgesTest::some, -100, (x, a) -> x.concede(a[0], a[1], a[2], a[3]),
                row(0, 50, 50, 1), row(0, 0, 0, 0), row(3, 99, 99, 63));
        arguments("presses", EdgesTest::full, -2, (x, a) -> x.presses(a[0], a[1]),
                row(1, 0), row(0, 0), row(63, 1));
    }

    private static void argumentsOfLeaves() {
        arguments("leave", EdgesTest::some, -2, (x, a) -> x.leave(a[0], a[1], a[2], a[3], a[4]),
                row(1, 0, 30, 0, 0), row(0, 0, 0, 0, 0), row(2, 5, 59, 1, 1));
        arguments("whose", EdgesTest::some, -2, (x, a) -> x.whose(a[0], a[1], a[2], a[3], a[4], a[5]),
                row(1, 9, 0, 30, 0, 0), row(0, 0, 0, 0, 0, 0), row(2, 20, 5, 59, 1, 1));
        arguments("odds", EdgesTest::some, -2, (x, a) -> x.odds(a[0], a[1], a[2], a[3], a[4], a[5]),
                row(1, 0, 0, 59, 0, 0), row(0, 0, 0, 0, 0, 0), row(2, 5, 59, 59, 1, 1));
        arguments("drawn", EdgesTest::some, -2, (x, a) -> x.drawn(a[0], a[1]),
                row(7, 7), row(0, 0), row(999999, 60));
    }

    private static void argumentsOfWhatThereIs() {
        arguments("part", EdgesTest::some, -2, (x, a) -> x.part(a[0]), row(0), row(0), row(1));
        arguments("image", EdgesTest::some, -2, (x, a) -> x.image(a[0]), row(0), row(0), row(1));
        arguments("from", EdgesTest::some, -2, (x, a) -> x.from(a[0]), row(0), row(0), row(1));
        arguments("status", EdgesTest::some, -1, (x, a) -> x.status(a[0]), row(0), row(0), row(2));
        arguments("count", EdgesTest::full, -2, (x, a) -> x.count(a[0]), row(0), row(0), row(5));
    }

    // "Nothing is changed by these", nor by what else only asks; "not so many" is no refusal.
    private static void askingChangesNothing() {
        for (Supplier<BanLand> made : List.<Supplier<BanLand>>of(EdgesTest::some, EdgesTest::full)) {
            unchanged("of", made, (x, a) -> x.of(0, 6));
            unchanged("far", made, (x, a) -> x.far(0, 2));
            unchanged("allowed", made, (x, a) -> x.allowed(0, 0, 7, 1, 1, 0));
            unchanged("nearest", made, (x, a) -> x.nearest(0, 0, 7, 0, 0, 1));
            unchanged("contradict", made, (x, a) -> x.contradict(0, 7, 0));
            unchanged("contradict's -5", made, (x, a) -> x.contradict(0, 7, 15));
            unchanged("settle", made, (x, a) -> x.settle(63, 7));
            unchanged("reads", made, (x, a) -> x.reads(0, 0, 7, 1, 1));
            unchanged("patience", made, (x, a) -> x.patience(50, 50, 63, 1));
            unchanged("concede", made, (x, a) -> x.concede(0, 50, 50, 63));
            unchanged("presses", made, (x, a) -> x.presses(63, 1));
            unchanged("forged", made, (x, a) -> x.forged());
            unchanged("whose", made, (x, a) -> x.whose(0, 20, 0, 7, 0, 0));
            unchanged("drawn", made, (x, a) -> x.drawn(999999, 60));
            unchanged("part", made, (x, a) -> x.part(1));
            unchanged("status", made, (x, a) -> x.status(0));
            unchanged("count", made, (x, a) -> x.count(4));
            unchanged("digest", made, (x, a) -> x.digest());
        }
    }

    // "no TOWNS, no CLAUSES": there is none to name; what names none is no refusal.
    private static void onNothing() {
        Supplier<BanLand> made = BanLand::new;
        bad("no towns: road", made, (x, a) -> x.road(0, 1, 1));
        bad("no towns: far", made, (x, a) -> x.far(0, 0));
        refused("no towns: allowed", made, -10, BADS, (x, a) -> x.allowed(0, 0, 0, 0, 0, 0));
        bad("no towns: nearest", made, (x, a) -> x.nearest(0, 0, 0, 0, 0, 0));
        bad("no towns: reads", made, (x, a) -> x.reads(0, 0, 0, 0, 0));
        bad("no towns: leave", made, (x, a) -> x.leave(0, 0, 0, 0, 0));
        bad("no towns: whose", made, (x, a) -> x.whose(0, 0, 0, 0, 0, 0));
        bad("no towns: odds", made, (x, a) -> x.odds(0, 0, 0, 0, 0, 0));
        bad("no clauses: strike", made, (x, a) -> x.strike(0));
        bad("no clauses: of", made, (x, a) -> x.of(0, 0));
        refused("no clauses: concede", made, -100, BADS, (x, a) -> x.concede(0, 0, 0, 0));
        unchanged("no towns: contradict", made, (x, a) -> x.contradict(0, 0, -1));
        unchanged("no towns: settle", made, (x, a) -> x.settle(63, 0));
        unchanged("no towns: patience", made, (x, a) -> x.patience(1, 1, 63, 0));
        unchanged("no towns: presses", made, (x, a) -> x.presses(63, 0));
        unchanged("no towns: drawn", made, (x, a) -> x.drawn(0, 60));
        unchanged("no leaves: burn", made, (x, a) -> x.burn());
        unchanged("no leaves: forged", made, (x, a) -> x.forged());
        unchanged("no text: clear", made, (x, a) -> x.clear());
        unchanged("no text: read", made, (x, a) -> x.read());
        unchanged("nothing: land", made, (x, a) -> x.land());
        due("no towns: no pair", 0, new BanLand().contradict(0, 0, -1));
        due("no towns: no first pair", -5, new BanLand().contradict(0, 0, 0));
        due("no towns: nothing to strike", 0, new BanLand().settle(63, 0));
    }

    // "An object is used for at most 512 calls": the last of them is answered as the first.
    private static void calls() {
        BanLand x = new BanLand();
        for (int call = 1; call < 512; call++) {
            due("a call refused", -2, x.town(4));
        }
        due("the 512th call", 511, x.status(0));
    }

    // ---- promises 1 to 12

    private static void newObject() {
        full();
        BanLand x = new BanLand();
        for (int what = 0; what < 6; what++) {
            due("P1 nothing of count " + what, 0, x.count(what));
        }
        due("P1 the fraction, above", 0, x.part(0));
        due("P1 the fraction, below", 1, x.part(1));
        due("P1 no image 0", -3, x.from(0));
        due("P1 no image 1", -3, x.from(1));
        due("P1 nothing to undo", -3, x.undo());
        due("P1 no bad one yet", 0, x.status(0));
        due("P1 these three", 3, x.status(1));
        due("P1 no full one yet", 0, x.status(2));
    }

    private static void land() {
        BanLand x = full();
        x.town(9);
        x.town(0);
        x.status(3);
        due("P2 how many there were: 6", 6, x.land());
        for (int what = 0; what < 5; what++) {
            due("P2 nothing of count " + what, 0, x.count(what));
        }
        due("P2 the text stays", 150, x.count(5));
        due("P2 the fraction stays: above", 4, x.part(0));
        due("P2 the fraction stays: below", 5, x.part(1));
        due("P2 status stays: bad", 2, x.status(0));
        due("P2 status stays: full", 1, x.status(2));
        due("P2 there were none now", 0, x.land());
        due("P2 it can't be undone", -3, x.undo());
        for (int town = 0; town < 6; town++) {
            due("P2 town " + town + " anew", town, x.town(0));
        }
        due("P2 no road is left", -1, x.far(0, 5));
        due("P2 no clause is left", -1, x.allowed(0, 0, 7, 0, 0, 1));
        due("P2 no leave is left", 0, x.leave(0, 0, 0, 0, 0));
        due("P2 image 0 stays", 1, x.from(0));
        due("P2 it is whole", 6 + 8 + 15 + 8 + 8, x.count(0) + x.count(1) + x.count(2) + x.count(3) + x.count(4));
        due("P2 image 1 stays", 1, x.from(1));
        due("P2 it has a clause less", 7, x.count(1));
        due("P2 the text reads as told", 5, x.read());
    }

    private static void town() {
        BanLand x = new BanLand();
        for (int town = 0; town < 6; town++) {
            due("P3 its number", town, x.town(3 - town % 4));
            due("P3 how many then", town + 1, x.count(0));
        }
        refused("P3 FULL: 6", EdgesTest::full, -4, FULLS, (y, a) -> y.town(0));
        bad("P3 BAD ahead of FULL", EdgesTest::full, (y, a) -> y.town(4));
        due("P3 a town is no change that can be undone", -3, x.undo());
    }

    private static void road() {
        BanLand x = towns(0, 0, 0, 0, 0, 0);
        for (int a = 0; a < 6; a++) {
            for (int b = 0; b < 6; b++) {
                if (a < b) {
                    due("P4 none at first", 0, x.road(a, b, 1 + a));
                    due("P4 either way", 1 + a, x.road(b, a, 9));
                    due("P4 the last one told counts", 9, x.road(a, b, 1 + b));
                }
            }
            int alike = a;
            bad("P4 a town and itself", EdgesTest::full, (y, no) -> y.road(alike, alike, 1));
        }
        due("P4 all fifteen", 15, x.count(2));
        due("P4 a road told twice is one", 2, x.far(0, 1));
        due("P4 nothing to undo", -3, x.undo());
        bad("P4 a town that is not there yet", EdgesTest::some, (y, a) -> y.road(2, 3, 1));
    }

    private static void clause() {
        BanLand x = new BanLand();
        due("P5 of no day at the start", 0, x.clause(0, 0, 0, 0, 0));
        due("P5 of no day at the end", 1, x.clause(1, 0, 60, 60, 0));
        due("P5 of the last day", 2, x.clause(2, 0, 59, 60, 0));
        due("P5 of all days, of a town that is not there", 3, x.clause(3, 0, 0, 60, 5));
        bad("P5 from above till by one", EdgesTest::some, (y, a) -> y.clause(0, 0, 1, 0, 0));
        bad("P5 from above till at the end", EdgesTest::some, (y, a) -> y.clause(0, 0, 60, 59, 0));
        for (int i = 4; i < 8; i++) {
            due("P5 its number", i, x.clause(4, 0, 0, 60, 0));
        }
        refused("P5 FULL: 8", EdgesTest::full, -4, FULLS, (y, a) -> y.clause(0, 0, 0, 60, 0));
        bad("P5 BAD ahead of FULL", EdgesTest::full, (y, a) -> y.clause(6, 0, 0, 60, 0));
        x.strike(0);
        due("P5 room again", 7, x.clause(5, 5, 58, 59, 4));
        due("P5 as it was told", 5 + 5 + 58 + 59 + 4, x.of(7, 0) + x.of(7, 1) + x.of(7, 2) + x.of(7, 3) + x.of(7, 4));
        BanLand y = towns(0);
        y.clause(3, 0, 0, 60, 1);
        y.clause(0, 0, 0, 60, 0);
        y.town(0);
        due("P5 the town comes later: elsewhere", 0, y.allowed(0, 0, 0, 0, 0, 0));
        due("P5 the town comes later: there", 1, y.allowed(1, 0, 0, 0, 0, 0));
    }

    private static void strike() {
        int[] acts = {0, 1, 2, 3, 4, 5, 0, 1};
        for (int struck = 0; struck < 8; struck++) {
            BanLand x = new BanLand();
            for (int i = 0; i < 8; i++) {
                x.clause(0, acts[i], i, 60, 0);
            }
            due("P6 how many are left", 7, x.strike(struck));
            for (int i = 0; i < 7; i++) {
                due("P6 those behind have a number less", i < struck ? i : i + 1, x.of(i, 2));
            }
            due("P6 none has the last number", -2, x.strike(7));
            due("P6 the last of them", 6, x.strike(6));
        }
        BanLand x = new BanLand();
        x.clause(0, 0, 0, 60, 0);
        due("P6 the only one", 0, x.strike(0));
        due("P6 none is left", -2, x.strike(0));
        due("P6 a strike refused is none to undo", 2, x.count(4));
    }

    private static void undo() {
        refused("P7 NO: none may be", () -> towns(0, 1), -3, NOS, (y, a) -> y.undo());
        BanLand x = towns(0, 0);
        x.clause(0, 3, 0, 60, 0);
        x.clause(1, 4, 0, 60, 0);
        x.road(0, 1, 5);
        x.leave(0, 0, 0, 0, 0);
        x.town(1);
        due("P7 the last one told", 1, x.undo());
        due("P7 not what is no clause", 3 + 1 + 1, x.count(0) + x.count(2) + x.count(3));
        due("P7 the first one told", 0, x.undo());
        refusedThen("P7 none may be", x);
        x.clause(2, 5, 0, 60, 0);
        due("P7 a clause told after", 1, x.count(4));
        x.strike(0);
        due("P7 a strike is undone", 1, x.undo());
        due("P7 it is the one struck", 5, x.of(0, 1));
        x.clause(9, 0, 0, 0, 0);
        x.strike(1);
        due("P7 what was refused is none", 0, x.undo());
        refusedThen("P7 none may be again", x);
    }

    private static void refusedThen(String what, BanLand x) {
        int nos = x.status(1);
        long before = x.digest();
        due(what, -3, x.undo());
        due(what + ", counted", nos + 1, x.status(1));
        due(what + ", nothing changed", before, x.digest());
    }

    private static void undoEight() {
        BanLand x = new BanLand();
        for (int i = 0; i < 7; i++) {
            x.clause(0, 0, i, 60, 0);
        }
        due("P7 seven", 7, x.count(4));
        x.clause(0, 0, 7, 60, 0);
        due("P7 eight", 8, x.count(4));
        due("P7 eight are full", -4, x.clause(0, 0, 8, 60, 0));
        x.strike(3);
        due("P7 8 at most", 8, x.count(4));
        due("P7 undo the strike", 8, x.undo());
        for (int i = 7; i >= 1; i--) {
            due("P7 undo to " + i, i, x.undo());
            due("P7 the last of these", i - 1, x.of(i - 1, 2));
        }
        refusedThen("P7 the oldest is past undoing", x);
        due("P7 so it stays", 1, x.count(1));
        BanLand y = new BanLand();
        for (int i = 0; i < 20; i++) {
            y.clause(0, 0, i, 60, 0);
            y.clause(1, 1, i, 60, 0);
            y.strike(0);
            y.strike(0);
        }
        for (int left : new int[] {1, 2, 1, 0, 1, 2, 1, 0}) {
            due("P7 undo of many to " + left, left, y.undo());
        }
        refusedThen("P7 eight of many", y);
    }

    private static void type() {
        BanLand x = new BanLand();
        for (int i = 0; i < 150; i++) {
            due("P8 how many it has", i + 1, x.type(i % 2 == 0 ? 0 : 127));
        }
        refused("P8 FULL", EdgesTest::full, -4, FULLS, (y, a) -> y.type(' '));
        bad("P8 BAD ahead of FULL", EdgesTest::full, (y, a) -> y.type(128));
        bad("P8 BAD ahead of FULL, below 0", EdgesTest::full, (y, a) -> y.type(-1));
    }

    private static void clear() {
        BanLand x = full();
        due("P9 a full one", 150, x.clear());
        due("P9 an empty one", 0, x.clear());
        due("P9 none is left", 0, x.count(5));
        due("P9 the first byte again", 1, x.type('l'));
        due("P9 it had one", 1, x.clear());
        due("P9 the land stays", 6, x.count(0));
        due("P9 no refusal", 0, x.status(0) + x.status(1) + x.status(2));
    }

    private static void of() {
        int[][] told = {{0, 0, 0, 0, 0}, {1, 1, 60, 60, 1}, {2, 2, 0, 60, 2}, {3, 3, 59, 60, 3},
            {4, 4, 0, 1, 4}, {5, 5, 1, 60, 5}, {2, 0, 59, 60, 0}, {2, 0, 60, 60, 0}};
        int[] allows = {0, 1, 0, 1, 1, 1, 0, 0};
        int[] days = {0, 0, 30, 1, 1, 59, 1, 0};
        BanLand x = new BanLand();
        for (int[] c : told) {
            x.clause(c[0], c[1], c[2], c[3], c[4]);
        }
        for (int i = 0; i < 8; i++) {
            for (int what = 0; what < 5; what++) {
                due("P11 as told", told[i][what], x.of(i, what));
            }
            due("P11 whether it allows", allows[i], x.of(i, 5));
            due("P11 on how many days", days[i], x.of(i, 6));
        }
    }

    // "in the first half of its DAYS alone (cut up)".
    private static void lapsed() {
        for (int from = 0; from <= 60; from += 15) {
            for (int till = from; till <= 60; till++) {
                BanLand x = towns(0);
                x.clause(2, 0, from, till, 0);
                int half = (till - from) / 2 + (till - from) % 2;
                due("P11 half of " + (till - from), half, x.of(0, 6));
                for (int day : new int[] {from, from + half - 1, from + half, till - 1}) {
                    if (day >= 0 && day < 60) {
                        boolean speaks = day >= from && day < from + half;
                        due("P13 lapsed on day " + day, speaks ? 0 : -1, x.allowed(0, 0, day, 0, 0, 1));
                    }
                }
            }
        }
    }

    private static void far() {
        BanLand x = towns(0, 0, 0, 0, 0, 0);
        for (int a = 0; a < 6; a++) {
            for (int b = 0; b < 6; b++) {
                due("P12 NONE, but to itself", a == b ? 0 : -1, x.far(a, b));
            }
        }
        int[] chain = {3, 0, 5, 1, 4, 2};
        for (int i = 0; i < 5; i++) {
            x.road(chain[i], chain[i + 1], 9);
        }
        for (int i = 0; i < 6; i++) {
            for (int j = 0; j < 6; j++) {
                due("P12 by up to five roads", 9 * Math.abs(i - j), x.far(chain[i], chain[j]));
            }
        }
        due("P12 none of these is a refusal", 0, x.status(0) + x.status(1));
        BanLand y = towns(0, 0, 0);
        y.road(0, 1, 1);
        y.road(1, 2, 1);
        y.road(0, 2, 2);
        due("P12 the road or the way about", 2, y.far(0, 2));
        y.road(0, 2, 3);
        due("P12 the way about", 2, y.far(2, 0));
        y.road(0, 2, 1);
        due("P12 the road", 1, y.far(0, 2));
        y.town(0);
        due("P12 a new town has none", -1, y.far(3, 0));
    }

    // ---- promises 13 to 17

    // "in its DAYS": from the one, till the other, which is not in it.
    private static void allowedByDays() {
        int[][] days = {{0, 60}, {0, 1}, {59, 60}, {30, 31}, {10, 50}, {0, 0}, {60, 60}, {30, 30}};
        for (int[] d : days) {
            BanLand x = towns(0);
            x.clause(0, 5, d[0], d[1], 0);
            for (int day = 0; day < 60; day++) {
                boolean speaks = day >= d[0] && day < d[1];
                due("P13 banned on day " + day, speaks ? 0 : 1, x.allowed(0, 5, day, 0, 0, 0));
                due("P13 by which on day " + day, speaks ? 0 : -1, x.allowed(0, 5, day, 0, 0, 1));
            }
        }
        BanLand none = towns(3);
        due("P13 none speaks: it is allowed", 1, none.allowed(0, 5, 59, 1, 1, 0));
        due("P13 none speaks: NONE", -1, none.allowed(0, 5, 59, 1, 1, 1));
        due("P13 NONE is no refusal", 0, none.status(0));
    }

    // Where and to whom each kind speaks; rows: a town not its own, then its own; columns: who.
    private static void allowedByKinds() {
        String[] speaks = {"1111 1111", "1111 1111", "1111 1111", "0000 1111", "0011 0011", "0000 0101"};
        for (int kind = 0; kind < 6; kind++) {
            for (int act = 0; act < 6; act++) {
                BanLand x = towns(0, 0, 0, 0, 0, 0);
                x.clause(kind, act, 0, 60, 5);
                for (int town = 0; town < 6; town++) {
                    for (int who = 0; who < 4; who++) {
                        char due = speaks[kind].charAt((town == 5 ? 5 : 0) + who);
                        due("P13 kind " + kind + " in town " + town + " to " + who,
                                due == '1' ? 0 : -1, x.allowed(town, act, 0, who / 2, who % 2, 1));
                        due("P13 another act", -1, x.allowed(town, (act + 1) % 6, 0, who / 2, who % 2, 1));
                    }
                }
            }
        }
    }

    // Which of what speaks decides, by each reading: f forbids, a allows.
    private static void allowedByReadings() {
        String[] speaking = {"f", "a", "fa", "af", "ffa", "aaf", "faf", "afa", "ffffaaaa", "aaaaffff",
            "fffaaaaa", "aaaaafff", "fffffaaa", "ffffffff", "aaaaaaaa", "fffffffa", "aaaaaaaf"};
        int[][] decides = {{0, 0, 0, 0}, {0, 0, 0, 0}, {0, 1, 1, 0}, {0, 1, 0, 1}, {0, 2, 2, 0}, {0, 2, 0, 0},
            {0, 2, 1, 0}, {0, 2, 0, 0}, {0, 7, 4, 0}, {0, 7, 0, 4}, {0, 7, 3, 3}, {0, 7, 0, 0}, {0, 7, 5, 0},
            {0, 7, 0, 0}, {0, 7, 0, 0}, {0, 7, 7, 0}, {0, 7, 0, 0}};
        for (int i = 0; i < speaking.length; i++) {
            BanLand x = towns(0, 1, 2, 3);
            for (int c = 0; c < speaking[i].length(); c++) {
                x.clause(speaking[i].charAt(c) == 'a' ? 1 : 0, 0, 0, 60, 0);
            }
            for (int reading = 0; reading < 4; reading++) {
                int by = decides[i][reading];
                String what = "P13 reading " + reading + " of " + speaking[i];
                due(what, by, x.allowed(reading, 0, 0, 0, 0, 1));
                due(what, speaking[i].charAt(by) == 'a' ? 1 : 0, x.allowed(reading, 0, 0, 0, 0, 0));
            }
        }
    }

    private static void nearestIs(String what, BanLand x, int town, int day, int wantDay, int wantTown, int wantWay) {
        due(what + ": the day", wantDay, x.nearest(town, 0, day, 0, 0, 0));
        due(what + ": the town", wantTown, x.nearest(town, 0, day, 0, 0, 1));
        due(what + ": the days on roads", wantWay, x.nearest(town, 0, day, 0, 0, 2));
    }

    private static void nearestByDays() {
        BanLand x = towns(0, 0);
        x.clause(3, 0, 50, 60, 1);
        x.clause(0, 0, 0, 60, 0);
        nearestIs("P14 no road", x, 0, 0, -1, -1, -1);
        x.road(0, 1, 9);
        nearestIs("P14 one may wait", x, 0, 0, 50, 1, 9);
        nearestIs("P14 there on the very day", x, 0, 41, 50, 1, 9);
        nearestIs("P14 there a day late", x, 0, 42, 51, 1, 9);
        nearestIs("P14 there on the last day", x, 0, 50, 59, 1, 9);
        nearestIs("P14 there past the last day", x, 0, 51, -1, -1, -1);
        nearestIs("P14 at home on the last day", x, 1, 59, 59, 1, 0);
        nearestIs("P14 on the last day", x, 0, 59, -1, -1, -1);
        due("P14 NONE is no refusal", 0, x.status(0) + x.status(1));
        BanLand y = towns(0);
        y.clause(0, 0, 0, 59, 0);
        nearestIs("P14 waiting at home till the last day", y, 0, 0, 59, 0, 0);
        y.clause(0, 0, 59, 60, 0);
        nearestIs("P14 waiting at home in vain", y, 0, 0, -1, -1, -1);
    }

    private static void nearestOfLikeOnes() {
        BanLand x = towns(0, 0, 0, 0, 0, 0);
        x.clause(3, 0, 20, 21, 1);
        x.clause(3, 0, 20, 21, 4);
        x.clause(3, 0, 20, 21, 5);
        x.clause(0, 0, 0, 60, 0);
        x.road(0, 1, 3);
        x.road(0, 4, 2);
        x.road(0, 3, 1);
        x.road(3, 5, 1);
        nearestIs("P14 of fewest days, then the least", x, 0, 0, 20, 4, 2);
        nearestIs("P14 at home, though others are less", x, 5, 20, 20, 5, 0);
        x.road(0, 4, 3);
        nearestIs("P14 of fewest days by two roads", x, 0, 0, 20, 5, 2);
        x.road(3, 5, 2);
        nearestIs("P14 all alike", x, 0, 0, 20, 1, 3);
        nearestIs("P14 all alike, just there", x, 0, 17, 20, 1, 3);
        nearestIs("P14 all too late", x, 0, 18, -1, -1, -1);
        x.road(0, 1, 4);
        x.road(0, 5, 1);
        nearestIs("P14 of one day late the others", x, 0, 17, 20, 5, 1);
        x.clause(3, 0, 19, 20, 1);
        due("P14 a clause told behind the ban is too late", 20, x.nearest(0, 0, 0, 0, 0, 0));
        x.strike(3);
        nearestIs("P14 all is allowed: at home at once", x, 0, 0, 0, 0, 0);
    }

    // The dying are allowed at home, those behind shut doors a day's way off, both on all days.
    private static void forAnAsker() {
        BanLand x = towns(0, 0);
        x.road(0, 1, 1);
        x.clause(4, 0, 30, 40, 0);
        x.clause(5, 0, 20, 25, 1);
        x.clause(0, 0, 0, 60, 0);
        int[] days = {-1, 20, 30, 20};
        int[] towns = {-1, 1, 0, 1};
        int[] whose = {0, 0, 3, 3};
        int[] shut = {0, 2, 0, 2};
        int[] inVain = {1, 1, 5, 5};
        int[] of = {1, 1, 6, 6};
        for (int who = 0; who < 4; who++) {
            due("P14 asker " + who + ": the day", days[who], x.nearest(0, 0, 0, who / 2, who % 2, 0));
            due("P14 asker " + who + ": the town", towns[who], x.nearest(0, 0, 0, who / 2, who % 2, 1));
            due("P24 asker " + who + " on day 30", whose[who], x.whose(0, 1, 0, 30, who / 2, who % 2));
            due("P24 asker " + who + " on day 24", shut[who], x.whose(0, 1, 0, 24, who / 2, who % 2));
            x.odds(0, 0, 0, 59, who / 2, who % 2);
            due("P25 asker " + who + ": above", inVain[who], x.part(0));
            due("P25 asker " + who + ": below", of[who], x.part(1));
        }
    }

    private static void contradict() {
        BanLand x = towns(0, 1, 0, 1, 0, 1);
        x.clause(0, 5, 59, 60, 0);
        x.clause(1, 5, 59, 60, 0);
        int[] pairs = {1, 3, 5, 12, 14, 23, 25, 34, 45};
        due("P15 how many", 9, x.contradict(5, 59, -1));
        for (int i = 0; i < pairs.length; i++) {
            due("P15 the i-th, rising", pairs[i], x.contradict(5, 59, i));
        }
        due("P15 not so many by one", -5, x.contradict(5, 59, 9));
        due("P15 not so many by far", -5, x.contradict(5, 59, Integer.MAX_VALUE));
        due("P15 the day ahead", 0, x.contradict(5, 58, -1));
        due("P15 another act", 0, x.contradict(4, 59, -1));
        due("P15 no refusal", 0, x.status(0));
        refused("P15 i below -1, too", EdgesTest::full, -10, BADS, (y, a) -> y.contradict(0, 0, -2));
        due("P15 one town is no pair", 0, towns(0).contradict(0, 0, -1));
        BanLand y = towns(0, 0);
        y.clause(3, 0, 0, 60, 1);
        y.clause(0, 0, 0, 60, 0);
        due("P15 the lesser and the other", 1, y.contradict(0, 0, 0));
        BanLand z = towns(2, 3);
        z.clause(0, 0, 0, 60, 0);
        z.clause(4, 0, 0, 60, 0);
        z.clause(5, 0, 0, 60, 0);
        due("P15 as to one not dying, not behind shut doors", 0, z.contradict(0, 0, -1));
    }

    private static void settle() {
        BanLand x = towns(0, 1);
        for (int i = 0; i < 4; i++) {
            x.clause(0, 5, 0, 60, 0);
        }
        for (int i = 0; i < 4; i++) {
            x.clause(1, 5, 0, 60, 0);
        }
        due("P16 four and four: the least four", 15, x.settle(32, 59));
        due("P16 no act is asked", 0, x.settle(0, 59));
        BanLand first = towns(0, 1);
        first.clause(1, 0, 0, 1, 0);
        first.clause(0, 0, 0, 1, 0);
        due("P16 the first act on the first day", 1, first.settle(1, 0));
        due("P16 another act", 0, x.settle(31, 59));
        due("P16 nothing is struck by it", 8, x.count(1));
        x.strike(0);
        due("P16 three and four", 7, x.settle(63, 0));
        x.strike(6);
        x.strike(5);
        due("P16 three and two: the last two", 8 + 16, x.settle(63, 0));
        due("P16 one town agrees", 0, towns(0).settle(63, 0));
        BanLand y = towns(0, 0);
        y.clause(0, 1, 0, 60, 0);
        y.clause(3, 1, 29, 30, 1);
        due("P16 behind a ban no grace is heard: they agree", 0, y.settle(63, 29));
        BanLand z = towns(0, 0);
        for (int i = 0; i < 6; i++) {
            z.clause(0, 0, 0, 60, 0);
        }
        z.clause(3, 1, 29, 30, 1);
        z.clause(0, 1, 0, 60, 0);
        due("P16 of like ones the least", 64, z.settle(2, 29));
        due("P16 a day ahead they agree", 0, z.settle(2, 28));
        due("P16 a day behind they agree", 0, z.settle(2, 30));
        BanLand last = towns(1, 1);
        for (int i = 0; i < 6; i++) {
            last.clause(0, 1, 0, 60, 0);
        }
        last.clause(3, 2, 0, 60, 0);
        last.clause(3, 1, 0, 60, 0);
        due("P16 the last clause alone", 128, last.settle(63, 0));
    }

    private static void reads() {
        due("P17 none speaks: by all", 15, towns(0).reads(0, 0, 0, 0, 0));
        BanLand x = towns(3);
        x.clause(0, 0, 0, 60, 0);
        due("P17 one forbids: by none", 0, x.reads(0, 0, 59, 0, 0));
        due("P17 another act: by all", 15, x.reads(0, 5, 59, 0, 0));
        x.clause(4, 0, 0, 60, 0);
        due("P17 to the dying by two", 2 + 4, x.reads(0, 0, 59, 1, 0));
        due("P17 to others by none", 0, x.reads(0, 0, 59, 0, 1));
        x.clause(5, 0, 0, 60, 0);
        due("P17 to both by three", 2 + 4 + 8, x.reads(0, 0, 59, 1, 1));
        BanLand y = towns(0);
        y.clause(1, 0, 0, 60, 0);
        due("P17 one allows: by all", 15, y.reads(0, 0, 0, 0, 0));
        y.clause(0, 0, 0, 60, 0);
        due("P17 one and one: by two", 1 + 4, y.reads(0, 0, 0, 0, 0));
    }

    // ---- promises 18 to 20

    private static void givesIn(String what, BanLand x, int k, int p, int acts, int day, int who) {
        due(what + ": the day", day, x.patience(k, p, acts, 0));
        due(what + ": who", who, x.patience(k, p, acts, 1));
    }

    private static void patience() {
        BanLand x = towns(0, 0, 0, 0, 0, 0);
        x.clause(0, 5, 0, 60, 0);
        givesIn("P18 none left at first: both", x, 0, 0, 32, 0, 2);
        givesIn("P18 none left at first: the king", x, 0, 1, 32, 0, 0);
        givesIn("P18 none left at first: the pope", x, 7, 0, 32, 0, 1);
        givesIn("P18 the king on day 0", x, 6, 99, 32, 0, 0);
        givesIn("P18 the king on day 1", x, 7, 99, 32, 1, 0);
        givesIn("P18 the king, of most patience", x, 99, 99, 32, 16, 0);
        givesIn("P18 the pope, of most patience", x, 99, 99, 31, 16, 1);
        givesIn("P18 no act: the pope", x, 0, 7, 0, 0, 0);
        givesIn("P18 no act: the pope on day 1", x, 1, 7, 0, 1, 1);
        x.clause(0, 4, 0, 60, 0);
        givesIn("P18 two acts forbidden are one town", x, 7, 99, 63, 1, 0);
        BanLand y = towns(0, 0);
        y.clause(3, 0, 0, 60, 1);
        y.clause(0, 0, 0, 60, 0);
        givesIn("P18 one and one: both", y, 9, 9, 1, 8, 2);
        givesIn("P18 one and one: the king", y, 9, 10, 1, 8, 0);
        givesIn("P18 one and one: the pope", y, 10, 9, 1, 8, 1);
        givesIn("P18 on the last day", y, 60, 60, 1, 59, 2);
        givesIn("P18 on the last day the pope", y, 61, 60, 1, 59, 1);
        givesIn("P18 past the last day", y, 61, 61, 1, -1, -1);
        due("P18 NONE is no refusal", 0, y.status(0));
    }

    private static void patienceOfNone() {
        givesIn("P18 no towns, some patience", new BanLand(), 1, 1, 63, -1, -1);
        givesIn("P18 no towns, the king has none", new BanLand(), 0, 1, 63, 0, 0);
        givesIn("P18 no towns, the pope has none", new BanLand(), 1, 0, 63, 0, 1);
        givesIn("P18 no towns, both have none", new BanLand(), 0, 0, 0, 0, 2);
        BanLand x = towns(2, 2);
        x.clause(0, 0, 0, 60, 0);
        x.clause(4, 0, 0, 60, 0);
        x.clause(5, 0, 0, 60, 0);
        givesIn("P18 as to one not dying, not behind shut doors", x, 2, 99, 1, 0, 0);
        BanLand y = towns(0);
        y.clause(0, 0, 0, 1, 0);
        y.clause(0, 0, 59, 60, 0);
        givesIn("P18 pressed on the first and the last day", y, 2, 99, 1, 59, 0);
        givesIn("P18 let go on all but these", y, 99, 58, 1, 58, 1);
        givesIn("P18 not on the last day", y, 99, 59, 1, -1, -1);
    }

    private static void concede() {
        BanLand x = towns(0);
        x.clause(0, 5, 0, 60, 0);
        due("P19 from day 0 to none", 60, x.concede(0, 1, 99, 32));
        due("P19 from none to day 0", -60, x.concede(0, 99, 1, 32));
        due("P19 from day 0 to day 59", 59, x.concede(0, 1, 60, 32));
        due("P19 from day 0 to past it", 60, x.concede(0, 1, 61, 32));
        due("P19 from none to none", 0, x.concede(0, 61, 61, 32));
        due("P19 from day 59 to none", 1, x.concede(0, 60, 61, 32));
        due("P19 from none to day 59", -1, x.concede(0, 61, 60, 32));
        due("P19 none left at first", 0, x.concede(0, 0, 99, 32));
        due("P19 of another act", 0, x.concede(0, 9, 9, 31));
        due("P19 nothing is struck by it", 1, x.count(1));
        for (int i = 1; i < 8; i++) {
            x.clause(i == 7 ? 1 : 0, 5, 0, 60, 0);
        }
        due("P19 one of many bans", 0, x.concede(6, 1, 99, 32));
        due("P19 the last clause", 0, x.concede(7, 1, 99, 32));
        x.town(1);
        due("P19 the last clause, which the last town hears", -2, x.concede(7, 4, 99, 32));
        BanLand none = new BanLand();
        none.clause(0, 0, 0, 60, 0);
        due("P19 no towns", 0, none.concede(0, 1, 1, 1));
        refused("P19 BAD: -100: one more than there are", EdgesTest::some, -100, BADS, (y, a) -> y.concede(4, 1, 1, 1));
    }

    private static void pressesIs(String what, BanLand x, int acts, int which, int days) {
        due(what + ": which", which, x.presses(acts, 0));
        due(what + ": on how many", days, x.presses(acts, 1));
    }

    private static void presses() {
        pressesIs("P20 no towns", new BanLand(), 63, -1, 0);
        due("P20 NONE is no refusal", 0, new BanLand().status(0));
        BanLand x = towns(0, 0, 1, 1, 0, 1);
        pressesIs("P20 none forbids: the first", x, 63, 0, 0);
        x.clause(0, 0, 0, 60, 0);
        pressesIs("P20 all 60, of like ones the first", x, 1, 0, 60);
        pressesIs("P20 another act", x, 62, 0, 0);
        pressesIs("P20 no act", x, 0, 0, 0);
        x.clause(1, 0, 0, 60, 0);
        x.clause(0, 1, 59, 60, 0);
        x.clause(0, 2, 59, 60, 0);
        pressesIs("P20 two acts on a day are one day", x, 6, 0, 1);
        x.clause(3, 1, 0, 60, 2);
        pressesIs("P20 the first that hears it", x, 2, 0, 1);
        BanLand y = towns(0, 0, 0, 0, 0, 0);
        y.clause(3, 0, 0, 1, 0);
        y.clause(3, 0, 59, 60, 1);
        y.clause(3, 0, 0, 2, 4);
        y.clause(0, 0, 0, 60, 0);
        pressesIs("P20 the first of those on most", y, 1, 2, 60);
        BanLand last = towns(0, 0, 0, 0, 0, 1);
        last.clause(1, 0, 0, 60, 0);
        last.clause(0, 0, 30, 31, 0);
        pressesIs("P20 the last town, one day", last, 1, 5, 1);
    }

    // ---- promises 21 to 26

    private static void leave() {
        BanLand x = towns(0);
        for (int i = 0; i < 8; i++) {
            due("P21 its number", i, x.leave(0, 5, 59, 1, 1));
        }
        refused("P21 FULL: 8", EdgesTest::full, -4, FULLS, (y, a) -> y.leave(0, 0, 0, 0, 0));
        bad("P21 BAD ahead of FULL", EdgesTest::full, (y, a) -> y.leave(0, 0, 60, 0, 0));
        due("P21 it can't be undone", -3, x.undo());
        due("P22 how many there were", 8, x.burn());
        due("P22 none now", 0, x.burn());
        due("P22 no leaves", 0, x.count(3));
        due("P21 room again", 0, x.leave(0, 0, 0, 0, 0));
        due("P22 the one", 1, x.burn());
        due("P22 no refusal", 0, x.status(0) + x.status(2));
    }

    private static void forged() {
        due("P23 no leaves", 0, new BanLand().forged());
        BanLand x = towns(0);
        for (int i = 0; i < 8; i++) {
            x.leave(0, i % 4, 59 - i, i / 2 % 2, i % 2);
        }
        due("P23 none speaks: none is forged", 0, x.forged());
        for (int act = 0; act < 4; act++) {
            x.clause(0, act, 0, 60, 0);
        }
        due("P23 all eight", 255, x.forged());
        x.strike(3);
        due("P23 all but the fourth and the eighth", 255 - 8 - 128, x.forged());
        x.undo();
        due("P23 by the clauses as they are now", 255, x.forged());
        BanLand y = towns(0);
        y.clause(4, 0, 0, 60, 0);
        y.clause(5, 0, 30, 31, 0);
        y.clause(0, 0, 0, 60, 0);
        for (int who = 0; who < 4; who++) {
            y.leave(0, 0, 30, who / 2, who % 2);
            y.leave(0, 0, 31, who / 2, who % 2);
        }
        due("P23 to the asker, on the day", 1 + 2 + 8, y.forged());
        y.burn();
        due("P23 none is left", 0, y.forged());
    }

    private static void whose() {
        BanLand x = towns(0, 0, 0, 0);
        x.road(0, 1, 9);
        x.road(1, 2, 9);
        x.road(2, 3, 2);
        due("P24 w 0: at home", 1, x.whose(0, 0, 0, 0, 0, 0));
        due("P24 w 8: a day too few", 1, x.whose(0, 8, 0, 0, 0, 0));
        due("P24 w 9: no more than", 3, x.whose(0, 9, 0, 0, 0, 0));
        due("P24 w 19", 7, x.whose(0, 19, 0, 0, 0, 0));
        due("P24 w 20: the farthest", 15, x.whose(0, 20, 0, 0, 0, 0));
        x.road(2, 3, 3);
        due("P24 21 days", 7, x.whose(0, 20, 0, 0, 0, 0));
        x.town(0);
        due("P24 no road to it", 7, x.whose(0, 20, 0, 0, 0, 0));
        due("P24 no road from it", 16, x.whose(4, 20, 0, 0, 0, 0));
        x.clause(3, 0, 0, 60, 1);
        x.clause(0, 0, 0, 60, 0);
        due("P24 who would have", 2, x.whose(0, 20, 0, 59, 0, 0));
        due("P24 nobody near would have", 0, x.whose(0, 8, 0, 59, 0, 0));
        due("P24 nobody is no refusal", 0, x.status(0) + x.status(1));
    }

    private static void fraction(String what, BanLand x, int a, int b, int above, int below) {
        due(what, 1, x.odds(0, 0, a, b, 0, 0));
        due(what + ": above", above, x.part(0));
        due(what + ": below", below, x.part(1));
    }

    private static void odds() {
        BanLand x = towns(0);
        fraction("P25 none in vain: 0 by 1", x, 0, 59, 0, 1);
        fraction("P25 one day, not in vain", x, 59, 59, 0, 1);
        x.clause(0, 0, 20, 50, 0);
        fraction("P25 all days: lowest terms", x, 0, 59, 1, 2);
        fraction("P25 both in it", x, 19, 20, 1, 2);
        fraction("P25 both in it, at the end", x, 49, 50, 1, 2);
        fraction("P25 one day in vain", x, 20, 20, 1, 1);
        fraction("P25 all in vain: 1 by 1", x, 20, 49, 1, 1);
        fraction("P25 none again: 0 by 1", x, 50, 59, 0, 1);
        fraction("P25 no common divisor", x, 0, 58, 30, 59);
        fraction("P25 by three", x, 14, 49, 5, 6);
        bad("P25 a above b, too", EdgesTest::full, (y, a) -> y.odds(0, 0, 1, 0, 0, 0));
        bad("P25 a above b, at the end", EdgesTest::full, (y, a) -> y.odds(0, 0, 59, 58, 0, 0));
        x.clause(0, 0, 0, 60, 0);
        fraction("P25 60 of 60", x, 0, 59, 1, 1);
    }

    private static void drawn() {
        due("P26 NONE: no towns", -1, new BanLand().drawn(0, 0));
        due("P26 NONE: no towns, most", -1, new BanLand().drawn(999999, 60));
        bad("P26 BAD ahead of NONE: the seed", BanLand::new, (x, a) -> x.drawn(1000000, 60));
        bad("P26 BAD ahead of NONE: n", BanLand::new, (x, a) -> x.drawn(0, 61));
        BanLand x = towns(0);
        due("P26 of none", 0, x.drawn(999999, 0));
        due("P26 no clauses: all", 60, x.drawn(999999, 60));
        due("P26 of one", 1, x.drawn(0, 1));
        for (int act = 0; act < 6; act++) {
            x.clause(0, act, 0, 60, 0);
        }
        due("P26 all are banned", 0, x.drawn(999999, 60));
    }

    // The numbers wrap around by 2147483648: reckoned here in numbers that never do.
    private static void drawnAsTold() {
        for (int towns = 1; towns <= 6; towns++) {
            BanLand x = new BanLand();
            for (int town = 0; town < towns; town++) {
                x.town(town % 4);
            }
            for (int i = 0; i < 8; i++) {
                x.clause(i < 4 ? i + 2 : 0, i / 3 * 2, 0, 60 - i, i % towns);
            }
            for (int seed : new int[] {0, 1, 65535, 65536, 999999}) {
                BigInteger at = BigInteger.valueOf(seed);
                int allowed = 0;
                for (int n = 1; n <= 20; n++) {
                    int[] who = new int[4];
                    for (int j = 0; j < 4; j++) {
                        at = at.multiply(BigInteger.valueOf(1103515245)).add(BigInteger.valueOf(12345))
                                .mod(BigInteger.valueOf(2147483648L));
                        who[j] = at.divide(BigInteger.valueOf(65536)).mod(
                                BigInteger.valueOf(new int[] {towns, 6, 60, 4}[j])).intValue();
                    }
                    allowed += x.allowed(who[0], who[1], who[2], who[3] / 2, who[3] % 2, 0);
                    if (n == 1 || n % 5 == 0) {
                        due("P26 seed " + seed + ", " + n + " askers", allowed, x.drawn(seed, n));
                    }
                }
            }
        }
    }

    // ---- promises 27 to 32

    private static void images() {
        BanLand x = full();
        due("P28 an image of all", 1, x.image(0));
        long kept = x.digest();
        x.burn();
        x.undo();
        x.road(0, 5, x.far(0, 5) == 1 ? 2 : 1);
        due("P29 it goes on from it", 1, x.from(0));
        due("P29 all is as it was", kept, x.digest());
        for (int left : new int[] {7, 8, 7, 6, 5, 4, 3, 2}) {
            due("P29 what may be undone it keeps", left, x.undo());
        }
        due("P29 no more than that", -3, x.undo());
        due("P29 an image is not used up", 1, x.from(0));
        due("P29 nor changed by undoing", kept, x.digest());
        due("P29 nor what may be undone", 7, x.undo());
        x.land();
        due("P28 of nothing", 1, x.image(0));
        x.town(0);
        due("P28 it takes the place of what was kept", 1, x.from(0));
        due("P28 nothing is there", 0, x.count(0) + x.count(1) + x.count(2) + x.count(3) + x.count(4));
        due("P28 the other one stays", 1, x.from(1));
        due("P28 with seven clauses", 7, x.count(1));
        due("P27 the fraction stays", 4, x.part(0));
    }

    // Nothing of what stood ahead of going on is left, to the last clause that may be undone.
    private static void imagesAreWhole() {
        for (Supplier<BanLand> made : List.<Supplier<BanLand>>of(EdgesTest::some, EdgesTest::full, BanLand::new)) {
            BanLand want = made.get();
            want.image(0);
            want.image(1);
            BanLand x = made.get();
            x.image(0);
            x.image(1);
            x.land();
            for (int i = 0; i < 6; i++) {
                x.town(3);
                x.road(i, 0, 8);
                x.leave(0, 3, 33, 1, 1);
                x.clause(5, 3, 33, 44, 3);
                x.strike(0);
                x.clause(4, 2, 22, 33, 2);
            }
            x.from(0);
            alike("P29 an image, whatever stood ahead of it", want, x);
        }
    }

    private static void from() {
        refused("P29 NO: none was kept", () -> towns(0, 1), -3, NOS, (y, a) -> y.from(0));
        refused("P29 NO: none was kept, the other", () -> towns(0, 1), -3, NOS, (y, a) -> y.from(1));
        bad("P29 BAD ahead of NO", () -> towns(0, 1), (y, a) -> y.from(2));
        BanLand x = towns(0);
        x.image(1);
        due("P29 NO: but the other one was", -3, x.from(0));
        x.town(0);
        x.type(';');
        x.clause(0, 0, 0, 30, 0);
        x.odds(0, 0, 0, 59, 0, 0);
        due("P29 from the one kept", 1, x.from(1));
        due("P29 its towns", 1, x.count(0));
        due("P29 the text is not its own", 1, x.count(5));
        due("P29 the fraction is not its own", 2, x.part(1));
        due("P29 status is not its own", 1, x.status(1));
        due("P29 it has nothing to undo", -3, x.undo());
        due("P29 nor is going on from it a change to undo", 0, x.count(4));
        x.land();
        due("P29 images outlast the land", 1, x.from(1));
        due("P29 and are whole", 1, x.count(0));
    }

    private static void status() {
        BanLand x = new BanLand();
        due("P30 another what", -1, x.status(3));
        due("P30 counts as BAD", 1, x.status(0));
        due("P30 below 0", -1, x.status(-1));
        due("P30 counts, too", 2, x.status(0));
        x.allowed(0, 0, 0, 0, 0, 0);
        x.contradict(0, 0, -2);
        x.concede(0, 0, 0, 0);
        due("P30 where others are told they count as these", 5, x.status(0));
        x.contradict(0, 0, 0);
        x.read();
        x.patience(1, 1, 0, 0);
        x.presses(0, 0);
        x.drawn(0, 0);
        due("P30 -5, a fault, NONE: no refusals", 5, x.status(0) + x.status(1) + x.status(2));
        x.undo();
        x.from(0);
        due("P30 NO", 2, x.status(1));
        BanLand y = full();
        y.town(0);
        y.clause(0, 0, 0, 0, 0);
        y.type(0);
        y.leave(0, 0, 0, 0, 0);
        due("P30 FULL", 4, y.status(2));
        due("P30 FULL is not BAD", 0, y.status(0) + y.status(1));
        y.land();
        y.from(0);
        y.read();
        due("P30 no land takes its place", 4, y.status(2));
    }

    private static void count() {
        int[] most = {6, 8, 15, 8, 8, 150};
        BanLand x = full();
        BanLand none = new BanLand();
        for (int what = 0; what < 6; what++) {
            due("P31 the most of " + what, most[what], x.count(what));
            due("P31 none of " + what, 0, none.count(what));
        }
        x.road(0, 1, 9);
        due("P31 a road told anew is no more", 15, x.count(2));
        x.undo();
        due("P31 one less may be undone", 7, x.count(4));
    }

    // h wraps around as a long does: reckoned here in numbers that never do, and cut at the end.
    private static void digest() {
        due("P32 of nothing", mix(List.of(0, 0, 0, 0, 0, 0, 0, 1)), new BanLand().digest());
        BanLand one = towns(3);
        due("P32 one town has no roads", mix(List.of(1, 0, 0, 0, 0, 0, 3, 0, 1)), one.digest());
        BanLand two = towns(3, 0);
        due("P32 0: none", mix(List.of(2, 0, 0, 0, 0, 0, 3, 0, 0, 0, 1)), two.digest());
        BanLand x = full();
        List<Integer> all = new ArrayList<>(List.of(6, 8, 15, 8, 8, 150, 0, 1, 2, 3, 0, 1));
        for (int a = 0; a < 6; a++) {
            for (int b = a + 1; b < 6; b++) {
                all.add(1 + (a * b + b) % 9);
            }
        }
        for (int i = 1; i < 8; i++) {
            all.addAll(List.of(i % 6, i / 2, i, 60 - i, i % 6));
        }
        all.addAll(List.of(0, 5, 60, 60, 5));
        for (int i = 0; i < 8; i++) {
            all.addAll(List.of(i % 6, i / 2, 7 * i, i % 2, i / 4));
        }
        all.addAll(List.of((int) x.part(0), (int) x.part(1)));
        due("P32 of the most there can be", mix(all), x.digest());
        x.town(0);
        x.image(0);
        x.clear();
        all.set(5, 0);
        due("P32 status, images and what the text says are not in it", mix(all), x.digest());
    }

    private static long mix(List<Integer> values) {
        BigInteger h = BigInteger.valueOf(947);
        for (int v : values) {
            h = h.multiply(BigInteger.valueOf(31)).add(BigInteger.valueOf(v));
        }
        return h.longValue();
    }
}
