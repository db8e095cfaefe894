import java.util.ArrayList;
import java.util.List;

// The edges of promise 10 and of THE TEXT: what is read, and where the fault of a text is.
public final class TextEdgesTest {
    private static final int MOST = 150;
    private static final String SIX_TOWNS = "land;town0;town1;town2;town3;town0;town1;";
    private static final String TWO_TOWNS = "land;town 0;town 0;";
    private static final String EIGHT_CLAUSES = "land;clause0 0 0 0 0;clause1 0 0 0 0;clause2 0 0 0 0;"
            + "clause3 0 0 0 0;clause4 0 0 0 0;clause5 0 0 0 0;clause0 0 0 0 0;clause1 0 0 0 0;";

    private static int wrong = 0;

    public static void main(String[] args) {
        tooEarly();
        ofMostBytes();
        words();
        landOnce();
        punctuation();
        towns();
        roads();
        clauses();
        longRuns();
        anyByte();
        blanks();
        itemsAtTheirEdges();
        takesThePlace();
        allStays();
        nothingIsLeftOfAFault();
        faultBehindAGoodOne();
        System.out.println(wrong == 0 ? "TextEdgesTest: all as due" : "TextEdgesTest: " + wrong + " wrong");
        if (wrong != 0) {
            System.exit(1);
        }
    }

    private static void due(String what, Object want, Object got) {
        if (!got.equals(want)) {
            wrong++;
            System.out.println(what + ": answered " + got + ", due is " + want);
        }
    }

    private static void tell(BanLand x, String text) {
        x.clear();
        for (int i = 0; i < text.length(); i++) {
            x.type(text.charAt(i));
        }
    }

    private static BanLand read(String text, int items) {
        BanLand x = new BanLand();
        tell(x, text);
        due("the items of '" + text + "'", items, x.read());
        due("refusals at '" + text + "'", 0, x.status(0) + x.status(1) + x.status(2));
        return x;
    }

    private static void fault(String text, int place) {
        BanLand x = new BanLand();
        x.town(3);
        x.clause(0, 0, 0, 60, 0);
        tell(x, text);
        long before = x.digest();
        due("the fault of '" + text + "'", -10 - place, x.read());
        due("all stays at '" + text + "'", before, x.digest());
        due("refusals at '" + text + "'", 0, x.status(0) + x.status(1) + x.status(2));
    }

    // The fault is where the mark is, which the text is told without.
    private static void fault(String marked) {
        int place = marked.indexOf('^');
        fault(marked.substring(0, place) + marked.substring(place + 1), place);
    }

    private static String padded(String text, int length) {
        StringBuilder s = new StringBuilder(text);
        while (s.length() < length) {
            s.append(' ');
        }
        return s.toString();
    }

    // "the TEXT's length, if it ends too early (an empty one, too)".
    private static void tooEarly() {
        fault("^");
        fault(" ^");
        fault("land^");
        fault("land ^");
        fault("land;town^");
        fault("land;town ^");
        fault("land;town 3^");
        fault("land;town 03  ^");
        for (String behind : List.of("road", "road 0", "road 0 1", "road 0 1 9", "clause", "clause 5",
                "clause 5 5", "clause 5 5 60", "clause 5 5 60 60", "clause 5 5 60 60 5")) {
            fault(TWO_TOWNS + behind + "^");
            fault(TWO_TOWNS + behind + "   ^");
        }
        read("land;", 1);
        read("land; ", 1);
    }

    private static void ofMostBytes() {
        fault(padded("", MOST) + "^");
        fault(padded("land", MOST) + "^");
        fault(padded("land;town 0", MOST) + "^");
        fault(padded("land;", MOST - 1) + "^;");
        fault(padded("land;", MOST - 1) + "^x");
        read(padded("land;", MOST), 1);
        read(padded("land", MOST - 1) + ";", 1);
        read(padded("", MOST - 5) + "land;", 1);
        due("the last byte ends an item", 1, read(padded("land;town 3", MOST - 1) + ";", 2).count(0));
        String most = padded(EIGHT_CLAUSES, MOST - 8) + "town 03;";
        due("a text of most bytes", MOST, most.length());
        due("it is read to its end", 1, read(most, 10).count(0));
    }

    // "a word that is none".
    private static void words() {
        fault("^l");
        fault("^lan");
        fault("^lan;");
        fault("^lands;");
        fault("^landland;");
        fault("^aland;");
        fault("^a;");
        fault("^z;");
        fault("  ^lant;");
        fault("^band;");
        fault("land;^gown 0;");
        fault("land;^toad 0 1 1;");
        fault("land;^plause 0 0 0 0 0;");
        fault("land;^t");
        fault("land;^tow 0;");
        fault("land;^towns 0;");
        fault("land;^roa 0 1 1;");
        fault("land;^roads 0 1 1;");
        fault("land;^claus 0 0 0 0 0;");
        fault("land;^clauses 0 0 0 0 0;");
        fault("land;^strike 0;");
        fault("land;^townroad 0;");
        fault("land;clause ^ban 0 0 0 0;");
        fault("land;clause ^grace 0 0 0 0;");
        fault("land;town ^one;");
        fault("land;town 1 ^one;");
        fault("land;town 1^one;");
    }

    // "land (once, first of all)"; "land again, anything ahead of it".
    private static void landOnce() {
        fault("land;^land;");
        fault("land; ^land;");
        fault("land;^land");
        fault("land;town 0;^land;");
        fault(EIGHT_CLAUSES + "^land;");
        fault("^town 0;");
        fault("^town 0;land;");
        fault("^road 0 1 1;land;");
        fault("^clause 0 0 0 0 0;land;");
        fault("^0;land;");
        fault("^0land;");
        fault("^;land;");
        fault(" ^; land;");
        fault("^000 land;");
    }

    // What stands where a number, a word or the end of an item must.
    private static void punctuation() {
        fault("land;^;");
        fault("land ^land;");
        fault("land ^0;");
        fault("land ^town 0;");
        fault("land;^0;");
        fault("land;^00;");
        fault("land;town^;");
        fault("land;town ^town 0;");
        fault("land;town 0^town 0;");
        fault("land;town 0 ^0;");
        fault("land;town 0;^;");
        fault(TWO_TOWNS + "road 0 1^;");
        fault(TWO_TOWNS + "road 0 1 1 ^1;");
        fault("land;clause 0 0 0 0^;");
        fault("land;clause 0 0 0 0 0 ^0;");
        fault("land;clause 0^;");
    }

    private static void towns() {
        fault("land;town ^4;");
        fault("land;town ^04;");
        fault("land;town ^10;");
        fault("land;town ^99;");
        fault(SIX_TOWNS + "^town 0;");
        fault(SIX_TOWNS + " ^town");
        fault(SIX_TOWNS + "^town 9;");
        fault(SIX_TOWNS + "^town;");
        read(SIX_TOWNS + "road 5 0 9;clause 0 0 0 0 0;", 9);
    }

    // "a road's TOWN that is not there yet, two alike".
    private static void roads() {
        fault("land;road ^0 1 1;");
        fault("land;road ^0 0 1;");
        fault("land;town 0;road 0 ^1 1;");
        fault("land;town 0;road 0 ^1 1;town 0;");
        fault("land;town 0;road ^1 0 1;town 0;");
        fault("land;town 0;road 0 ^0 1;");
        fault(TWO_TOWNS + "road ^2 0 1;");
        fault(TWO_TOWNS + "road 0 ^2 1;");
        fault(TWO_TOWNS + "road 1 ^1 1;");
        fault(TWO_TOWNS + "road 1 ^01 1;");
        fault(TWO_TOWNS + "road 00 ^0 0;");
        fault(TWO_TOWNS + "road 0 1 ^0;");
        fault(TWO_TOWNS + "road 0 1 ^00;");
        fault(TWO_TOWNS + "road 0 1 ^10;");
        fault(SIX_TOWNS + "road ^6 0 1;");
        fault(SIX_TOWNS + "road 5 ^6 1;");
    }

    // "till below from"; each number that is not as told.
    private static void clauses() {
        fault("land;clause ^6 0 0 0 0;");
        fault("land;clause 0 ^6 0 0 0;");
        fault("land;clause 0 0 ^61 61 0;");
        fault("land;clause 0 0 ^61 0 0;");
        fault("land;clause 0 0 0 ^61 0;");
        fault("land;clause 0 0 0 0 ^6;");
        fault("land;clause 0 0 0 60 ^10;");
        fault("land;clause 0 0 1 ^0 0;");
        fault("land;clause 0 0 60 ^59 0;");
        fault("land;clause 0 0 10 ^9 9;");
        fault("land;clause 0 0 59 ^6");
        fault(EIGHT_CLAUSES + "^clause 0 0 0 0 0");
        fault(EIGHT_CLAUSES + "^clause");
        fault(EIGHT_CLAUSES + "  ^clause 6;");
        fault(EIGHT_CLAUSES + "^clauses");
        read(EIGHT_CLAUSES + "town 0;", 10);
    }

    // "a run of three figures or more (at its first one)"; one that wraps around is none the better.
    private static void longRuns() {
        for (String run : List.of("000", "001", "100", "0000", "999", "2147483648", "4294967296", "4294967297",
                "18446744073709551616", "00000000000000000000000000000000000000000")) {
            fault("land;town ^" + run + ";");
            fault("land;town^" + run + ";");
            fault("land;^" + run + ";");
            fault("^" + run);
            fault(TWO_TOWNS + "road ^" + run + " 1 1;");
            fault(TWO_TOWNS + "road 1 ^" + run + " 1;");
            fault(TWO_TOWNS + "road 0 1 ^" + run + ";");
            fault("land;clause ^" + run + " 0 0 0 0;");
            fault("land;clause 0 ^" + run + " 0 0 0;");
            fault("land;clause 0 0 ^" + run + " 60 0;");
            fault("land;clause 0 0 0 ^" + run + " 0;");
            fault("land;clause 0 0 0 0 ^" + run + ";");
            fault("land;town 0 ^" + run);
        }
        fault("land;town ^" + "0".repeat(MOST - 10));
    }

    // "a byte that begins none": each byte there is, ahead of a word, behind one, behind a number.
    private static void anyByte() {
        for (char c = 0; c < 128; c++) {
            boolean letter = c >= 'a' && c <= 'z';
            boolean figure = c >= '0' && c <= '9';
            if (c == ' ') {
                continue;
            }
            fault(c + "land;", 0);
            fault("land;" + c + "town 0;", 5);
            fault("land;town 0;" + c, 12);
            fault("la" + c + "nd;", 0);
            fault("land" + c + "x;", letter ? 0 : c == ';' ? 5 : 4);
            if (figure) {
                townOf("land;town" + c + ";", 9, c - '0');
                townOf("land;town 0" + c + ";", 10, c - '0');
            } else {
                fault("land;town" + c + "0;", letter ? 5 : 9);
                fault("land;town 0" + c + ";", c == ';' ? 12 : 11);
            }
        }
    }

    private static void townOf(String text, int place, int reading) {
        if (reading > 3) {
            fault(text, place);
        } else {
            read(text, 2);
        }
    }

    // "blanks (32), any number, ahead of, between and behind TOKENS (needed only between two
    // words, two numbers)".
    private static void blanks() {
        String none = "land;town3;town00;road1 0 09;clause5 5 59 60 5;";
        String many = "   land  ;  town   3 ; town  00;road  1   0 09   ;  clause 5 5 59   60 5  ;   ";
        due("no more blanks than needed", digest(many, many), digest(none, many));
        fault("^la nd;");
        fault("land;^to wn 0;");
        fault("land;town 0 ^3;");
        fault(TWO_TOWNS + "road 01 0^;");
        fault(TWO_TOWNS + "road 0 ^11;");
        fault("land;clause 0 0 0 ^600;");
        fault("land;\ttown 0;", 5);
        fault("land;\ntown 0;", 5);
        fault("land;town\u00000;", 9);
    }

    // Of what the one text tells, with the other one held then.
    private static long digest(String told, String held) {
        BanLand x = read(told, 5);
        tell(x, held);
        return x.digest();
    }

    private static void itemsAtTheirEdges() {
        BanLand x = read("land;clause 0 0 0 0 5;clause 05 05 60 60 05;clause 2 3 0 60 0;town 3;town 0;road 1 0 1;"
                + "road 0 1 9;", 8);
        int[][] told = {{0, 0, 0, 0, 5}, {5, 5, 60, 60, 5}, {2, 3, 0, 60, 0}};
        for (int i = 0; i < told.length; i++) {
            for (int what = 0; what < 5; what++) {
                due("clause " + i + ", " + what, told[i][what], x.of(i, what));
            }
        }
        due("the last road told counts", 9, x.far(0, 1));
        due("it is one road", 1, x.count(2));
        due("the first one allows none", 15, x.reads(0, 0, 0, 0, 0));
    }

    // "A LAND that is read takes the place of all but IMAGES, THE TEXT, THE FRACTION, STATUS".
    private static void takesThePlace() {
        BanLand x = used();
        String text = "land;town 2;town 1;clause 1 2 3 4 5;";
        tell(x, text);
        due("how many items", 4, x.read());
        due("what there is then", mix(2, 1, 0, 0, 0, text.length(), 2, 1, 0, 1, 2, 3, 4, 5, 1, 2), x.digest());
        due("nothing to undo", -3, x.undo());
        due("status stays, but for that", 1 + 1 + 1, x.status(0) + x.status(1) + x.status(2));
        due("no road is left", -1, x.far(0, 1));
        due("image 0 stays", 1, x.from(0));
        due("its towns", 3, x.count(0));
        due("its road", 7, x.far(0, 2));
        due("its leave", 1, x.count(3));
        due("it may be undone", 1, x.undo());
        due("image 1 was never kept", -3, x.from(1));
        due("the text is read again", 4, x.read());
        due("with two towns", 2, x.count(0));
        tell(x, "land;");
        due("an empty land", 1, x.read());
        due("nothing is there", 0, x.count(0) + x.count(1) + x.count(2) + x.count(3) + x.count(4));
        due("but the text", 5, x.count(5));
    }

    private static BanLand used() {
        BanLand x = new BanLand();
        x.town(0);
        x.town(1);
        x.town(2);
        x.road(0, 1, 8);
        x.road(0, 2, 7);
        x.clause(0, 0, 0, 30, 0);
        x.clause(1, 0, 0, 30, 0);
        x.leave(0, 0, 0, 0, 0);
        x.odds(0, 0, 0, 59, 0, 0);
        x.town(-1);
        x.image(0);
        x.image(2);
        x.leave(0, 0, 0, 0, 0);
        return x;
    }

    // "-10 less the FAULT: all stays": images and what may be undone, too.
    private static void allStays() {
        String text = "land;town 3;town 3;town 3;road 0 1 9;clause 4 4 4 4 4;town 4;";
        List<Long> seen = new ArrayList<>();
        for (int reads = 0; reads < 2; reads++) {
            BanLand x = used();
            tell(x, text);
            if (reads == 1) {
                due("the fault", -10 - text.lastIndexOf('4'), x.read());
            }
            seen.add(mix(x.digest(), x.status(0), x.status(1), x.status(2), x.undo(), x.digest(), x.undo(),
                    x.undo(), x.from(0), x.digest(), x.undo(), x.digest(), x.from(1), x.read()));
        }
        due("all stays", seen.get(0), seen.get(1));
    }

    private static void nothingIsLeftOfAFault() {
        BanLand x = new BanLand();
        tell(x, "land;town 3;town 3;town 3;road 0 1 9;clause 0 4 0 60 4;road 0 0");
        due("a fault behind much", -10 - 62, x.read());
        tell(x, "land;town 0;town 1;");
        due("a good one", 3, x.read());
        due("its towns", 2, x.count(0));
        due("no road", -1, x.far(0, 1));
        due("no clause", -1, x.allowed(0, 4, 0, 0, 0, 1));
        due("nothing but what it tells", mix(2, 0, 0, 0, 0, 19, 0, 1, 0, 0, 1), x.digest());
        x.road(0, 1, 5);
        x.clause(0, 4, 0, 60, 0);
        due("read again", 3, x.read());
        due("no road again", -1, x.far(0, 1));
        due("no clause again", 0, x.count(1));
    }

    private static void faultBehindAGoodOne() {
        BanLand x = new BanLand();
        for (int times = 0; times < 3; times++) {
            tell(x, "land;town 1;town 2;road 0 1 4;clause 3 0 0 60 1;");
            due("a good one", 5, x.read());
            tell(x, "land;town 3;^");
            due("a fault", -10 - 12, x.read());
            due("what was read stays", mix(2, 1, 1, 0, 0, 13, 1, 2, 4, 3, 0, 0, 60, 1, 0, 1), x.digest());
        }
    }

    private static long mix(long... values) {
        long h = 947;
        for (long v : values) {
            h = 31 * h + v;
        }
        return h;
    }
}
