import java.util.ArrayList;
import java.util.List;
import java.util.function.Consumer;
import java.util.function.ToIntFunction;

/**
 * "REFUSED by .. The first of these in that order." Each row makes two objects alike, refuses one a call,
 * and looks at the answer, status(), all counters of refusals, and that nothing else changed.
 */
public final class Refusals extends Due {
    private static final int[] BY = {-1, -2, -3, -5, -6};

    private static void row(int by, String call, Consumer<MirrorHeirs> ahead, ToIntFunction<MirrorHeirs> refused) {
        begin("refused by " + by);
        MirrorHeirs twin = new MirrorHeirs();
        ahead.accept(m);
        ahead.accept(twin);
        due("status() ahead of " + call, m.status(), 0);
        due(call, refused.applyAsInt(m), by);
        due("status() behind " + call, m.status(), by);
        for (int i = 0; i < BY.length; i++) {
            due("count(" + (9 + i) + ") behind " + call, m.count(9 + i), BY[i] == by ? 1 : 0);
        }
        due("status() asked once more behind " + call, m.status(), by);
        List<Integer> is = all(m);
        List<Integer> was = all(twin);
        for (int i = 0; i < is.size(); i++) {
            due("number " + i + " of all that stands behind " + call, is.get(i), was.get(i));
        }
    }

    /** What stands, asked by fewer than 400 calls; the tape aside, which texts and rows empty even if refused. */
    private static List<Integer> all(MirrorHeirs hall) {
        List<Integer> told = new ArrayList<>();
        for (int what = 0; what < 18; what++) {
            if (what < 8 || what > 13) {
                told.add(hall.count(what));
            }
        }
        for (int cell = 0; cell < 64; cell++) {
            for (int what = 0; what < 5; what++) {
                told.add(hall.at(cell, what));
            }
        }
        for (int pivot = 0; pivot < 8; pivot++) {
            for (int what = 0; what < 3; what++) {
                told.add(hall.of(pivot, what));
            }
        }
        for (int candle = 0; candle < 4; candle++) {
            told.add(hall.drawn(candle, 0));
        }
        told.add(hall.dust());
        return told;
    }

    private static void nothing(MirrorHeirs hall) {
    }

    /** Eight pivots at 0 .. 7, two free glasses at 8 and 9, a pillar at 10, six heirs at 16 .. 21. */
    private static void fullHall(MirrorHeirs hall) {
        int[] glasses = {1, 2, 4, 5};
        for (int cell = 0; cell < 10; cell++) {
            hall.put(cell, glasses[cell % 4]);
        }
        hall.put(10, 3);
        for (int cell = 0; cell < 8; cell++) {
            hall.pivot(cell, cell % 6, cell);
        }
        for (int heir = 0; heir < 6; heir++) {
            hall.heir(16 + heir, heir);
        }
    }

    private static void fullThings(MirrorHeirs hall) {
        for (int thing = 0; thing < 12; thing++) {
            hall.thing(thing, 1 + thing, thing % 10);
        }
        for (int candle = 0; candle < 4; candle++) {
            hall.candle(candle);
        }
    }

    private static void fullMemory(MirrorHeirs hall) {
        hall.heir(0, 0);
        for (int i = 0; i < 10; i++) {
            hall.telling(i, i, 0);
        }
        for (int i = 0; i < 6; i++) {
            hall.hint(0, 0);
        }
    }

    private static void fullLaws(MirrorHeirs hall) {
        for (int i = 0; i < 6; i++) {
            write(hall, "claims 1");
            hall.law();
        }
    }

    private static void log(MirrorHeirs hall) {
        hall.put(1, 1);
        hall.pivot(1, 0, 0);
        hall.heir(0, 0);
        hall.turn(0);
        hall.move(0, 8);
    }

    private static int texts(MirrorHeirs hall, String text, ToIntFunction<MirrorHeirs> reads) {
        write(hall, text);
        int answer = reads.applyAsInt(hall);
        due("count(8): the tape is empty then", hall.count(8), 0);
        return answer;
    }

    private static void kinds() {
        int[][] cannot = {{-1, 0}, {64, 0}, {0, -1}, {0, 6}, {-1, 6}, {Integer.MIN_VALUE, 0}, {Integer.MAX_VALUE, 1}};
        for (int[] n : cannot) {
            row(-1, "put(" + n[0] + ", " + n[1] + ")", Refusals::nothing, h -> h.put(n[0], n[1]));
        }
        row(-1, "put(16, 6) where a heir is", Refusals::fullHall, h -> h.put(16, 6));
        row(-1, "put(0, 6) where a pivot is", Refusals::fullHall, h -> h.put(0, 6));
        for (int kind = 1; kind <= 5; kind++) {
            int k = kind;
            row(-3, "put(21, " + k + ") where the last heir is", Refusals::fullHall, h -> h.put(21, k));
        }
        row(-3, "put(8, 1) where a heir came", Refusals::log, h -> h.put(8, 1));
    }

    private static void pivots() {
        int[][] cannot = {{-1, 0, 0}, {64, 0, 0}, {8, -2, 0}, {8, 6, 0}, {8, 0, -1}, {8, 0, 100}};
        for (int[] n : cannot) {
            String call = "pivot(" + n[0] + ", " + n[1] + ", " + n[2] + ")";
            row(-1, call + " in a full hall", Refusals::fullHall, h -> h.pivot(n[0], n[1], n[2]));
            row(-1, call + " in an empty hall", Refusals::nothing, h -> h.pivot(n[0], n[1], n[2]));
        }
        row(-3, "pivot(11, 0, 0) on nothing, no room", Refusals::fullHall, h -> h.pivot(11, 0, 0));
        row(-3, "pivot(10, 0, 0) on a pillar, no room", Refusals::fullHall, h -> h.pivot(10, 0, 0));
        row(-3, "pivot(7, 0, 0) where one is, no room", Refusals::fullHall, h -> h.pivot(7, 0, 0));
        row(-3, "pivot(1, 0, 0) where one is", Refusals::log, h -> h.pivot(1, 0, 0));
        row(-3, "pivot(2, 0, 0) on nothing", Refusals::log, h -> h.pivot(2, 0, 0));
        row(-5, "pivot(8, 0, 0), the ninth", Refusals::fullHall, h -> h.pivot(8, 0, 0));
        row(-5, "pivot(9, -1, 99), the ninth", Refusals::fullHall, h -> h.pivot(9, -1, 99));
        for (int number : new int[] {-1, 8, Integer.MIN_VALUE, Integer.MAX_VALUE}) {
            row(-2, "turn(" + number + ")", Refusals::fullHall, h -> h.turn(number));
        }
        row(-2, "turn(0) of none", Refusals::nothing, h -> h.turn(0));
        row(-2, "turn(1) of one", Refusals::log, h -> h.turn(1));
    }

    private static void heirs() {
        int[][] cannot = {{-1, 0}, {64, 0}, {11, -1}, {11, 100}, {10, 100}, {-1, -1}};
        for (int[] n : cannot) {
            row(-1, "heir(" + n[0] + ", " + n[1] + ")", Refusals::fullHall, h -> h.heir(n[0], n[1]));
        }
        for (int cell : new int[] {0, 1, 2, 3, 10}) {
            row(-3, "heir(" + cell + ", 0) on a kind, no room", Refusals::fullHall, h -> h.heir(cell, 0));
        }
        row(-3, "heir(1, 0) on a kind", Refusals::log, h -> h.heir(1, 0));
        row(-5, "heir(11, 0), the seventh", Refusals::fullHall, h -> h.heir(11, 0));
        row(-1, "move(0, -1)", Refusals::fullHall, h -> h.move(0, -1));
        row(-1, "move(0, 64)", Refusals::fullHall, h -> h.move(0, 64));
        row(-1, "move(6, 64), no such heir", Refusals::fullHall, h -> h.move(6, 64));
        row(-2, "move(6, 11)", Refusals::fullHall, h -> h.move(6, 11));
        row(-2, "move(-1, 11)", Refusals::fullHall, h -> h.move(-1, 11));
        row(-2, "move(6, 10) onto a pillar", Refusals::fullHall, h -> h.move(6, 10));
        row(-2, "move(1, 0) of one heir", Refusals::log, h -> h.move(1, 0));
        row(-3, "move(5, 10) onto a pillar", Refusals::fullHall, h -> h.move(5, 10));
        row(-3, "move(0, 1) onto a glass", Refusals::log, h -> h.move(0, 1));
        row(-3, "undo() of nothing", Refusals::nothing, MirrorHeirs::undo);
        row(-3, "undo() behind put()", h -> {
            log(h);
            h.put(63, 0);
        }, MirrorHeirs::undo);
        row(-3, "undo() behind two of two", h -> {
            log(h);
            h.undo();
            h.undo();
        }, MirrorHeirs::undo);
    }

    private static void thingsAndTerms() {
        int[][] cannot = {{-1, 1, 0}, {64, 1, 0}, {0, 0, 0}, {0, 100, 0}, {0, 1, -1}, {0, 1, 10}, {0, -1, 0}};
        for (int[] n : cannot) {
            String call = "thing(" + n[0] + ", " + n[1] + ", " + n[2] + ")";
            row(-1, call, Refusals::nothing, h -> h.thing(n[0], n[1], n[2]));
            row(-1, call + " without room", Refusals::fullThings, h -> h.thing(n[0], n[1], n[2]));
        }
        row(-5, "thing(0, 1, 0), the thirteenth", Refusals::fullThings, h -> h.thing(0, 1, 0));
        row(-1, "candle(-1)", Refusals::nothing, h -> h.candle(-1));
        row(-1, "candle(64)", Refusals::nothing, h -> h.candle(64));
        row(-1, "candle(64) without room", Refusals::fullThings, h -> h.candle(64));
        row(-5, "candle(63), the fifth", Refusals::fullThings, h -> h.candle(63));
        int[][] terms = {{0, 0}, {0, 7}, {1, -1}, {1, 24}, {2, -1}, {2, 11}, {3, 1}, {-1, 1}, {Integer.MAX_VALUE, 1}};
        for (int[] n : terms) {
            row(-1, "terms(" + n[0] + ", " + n[1] + ")", Refusals::nothing, h -> h.terms(n[0], n[1]));
        }
    }

    private static void memory() {
        int[][] tellings = {{-1, 0, 0}, {64, 0, 0}, {0, -1, 0}, {0, 64, 0}, {0, 0, -2}, {0, 0, 7}};
        for (int[] n : tellings) {
            String call = "telling(" + n[0] + ", " + n[1] + ", " + n[2] + ")";
            row(-1, call, Refusals::nothing, h -> h.telling(n[0], n[1], n[2]));
            row(-1, call + " without room", Refusals::fullMemory, h -> h.telling(n[0], n[1], n[2]));
        }
        row(-5, "telling(0, 0, 0), the eleventh", Refusals::fullMemory, h -> h.telling(0, 0, 0));
        row(-1, "hint(0, -2)", Refusals::log, h -> h.hint(0, -2));
        row(-1, "hint(0, 7)", Refusals::log, h -> h.hint(0, 7));
        row(-1, "hint(1, 7), no such heir, no room", Refusals::fullMemory, h -> h.hint(1, 7));
        row(-1, "hint(0, 7), no room", Refusals::fullMemory, h -> h.hint(0, 7));
        row(-2, "hint(1, 6), no such heir, no room", Refusals::fullMemory, h -> h.hint(1, 6));
        row(-2, "hint(-1, 0)", Refusals::log, h -> h.hint(-1, 0));
        row(-2, "hint(0, 0) without heirs", Refusals::nothing, h -> h.hint(0, 0));
        row(-5, "hint(0, 0), the seventh", Refusals::fullMemory, h -> h.hint(0, 0));
    }

    private static void texts() {
        row(-6, "row() of nothing", Refusals::log, MirrorHeirs::row);
        row(-6, "row() of y 8", Refusals::log, h -> texts(h, "\10\0\0", MirrorHeirs::row));
        row(-6, "row() of y 255", Refusals::log, h -> texts(h, "\377\0\0", MirrorHeirs::row));
        row(-6, "law() of nothing", Refusals::log, MirrorHeirs::law);
        row(-6, "law() of blanks", Refusals::log, h -> texts(h, "   ", MirrorHeirs::law));
        row(-6, "law() of orders", Refusals::log, h -> texts(h, "wait", MirrorHeirs::law));
        row(-5, "law(), the seventh", Refusals::fullLaws, h -> texts(h, "claims 1", MirrorHeirs::law));
        row(-5, "law(), the seventh, and faulty", Refusals::fullLaws, h -> texts(h, "claims", MirrorHeirs::law));
        row(-5, "law(), the seventh, and empty", Refusals::fullLaws, MirrorHeirs::law);
        row(-6, "orders() of nothing", Refusals::log, MirrorHeirs::orders);
        row(-6, "orders() of blanks", Refusals::log, h -> texts(h, "  ", MirrorHeirs::orders));
        row(-6, "orders() of a law", Refusals::log, h -> texts(h, "fogs", MirrorHeirs::orders));
        row(-6, "orders(), good ones ahead of a fault", Refusals::log, h -> texts(h, "turn 0;move 0 to 9;wait;turn", MirrorHeirs::orders));
        row(-6, "orders(), one that can't be ahead of a fault", Refusals::log, h -> texts(h, "turn 9;turn", MirrorHeirs::orders));
        String[] cannot = {"turn 1", "turn 0-1", "turn 1/0", "turn 1%0", "turn 1000*1000*1000+1", "move 1 to 9", "move 0-1 to 9",
            "move 0 to 64", "move 0 to 0-1", "move 0 to 1", "move 0 to 1/0", "move 1/0 to 9", "move 9 to 64", "turn 0 times 20;turn 1",
            "wait times 20;turn 0;move 0 to 63;move 0 to 1", "turn done times 2", "move 0 to 10 times 20;turn 8"};
        for (String text : cannot) {
            row(-3, "orders() of " + text, Refusals::log, h -> texts(h, text, MirrorHeirs::orders));
        }
    }

    private static void lawsImagesAndDraughts() {
        row(-2, "force(0) without laws", Refusals::nothing, h -> h.force(0));
        for (int number : new int[] {-2, 6, Integer.MIN_VALUE, Integer.MAX_VALUE}) {
            row(-2, "force(" + number + ")", Refusals::fullLaws, h -> h.force(number));
        }
        int[][] draughts = {{-1, 0}, {1000001, 0}, {0, -1}, {0, 49}, {Integer.MIN_VALUE, 0}, {0, Integer.MAX_VALUE}};
        for (int[] n : draughts) {
            row(-1, "draughts(" + n[0] + ", " + n[1] + ")", h -> {
                h.candle(0);
                h.draughts(1, 1);
                h.candle(1);
            }, h -> h.draughts(n[0], n[1]));
        }
        for (int k : new int[] {-1, 2, Integer.MIN_VALUE, Integer.MAX_VALUE}) {
            row(-1, "image(" + k + ")", Refusals::log, h -> h.image(k));
            row(-1, "back(" + k + ")", Refusals::log, h -> h.back(k));
        }
        row(-2, "back(0) of none", Refusals::log, h -> h.back(0));
        row(-2, "back(1) of none", Refusals::log, h -> h.back(1));
        row(-2, "back(1) where image 0 is", h -> {
            h.image(0);
            log(h);
        }, h -> h.back(1));
        row(-2, "back(0) where image 1 is", h -> {
            h.image(1);
            log(h);
        }, h -> h.back(0));
    }

    /** All five counters go up one by one, each by its own number alone, and no image brings them back. */
    private static void counters() {
        begin("count(9 .. 13)");
        refusals(0, 0, 0, 0, 0);
        m.image(0);
        for (int i = 0; i < 5; i++) {
            m.candle(0);
        }
        refusals(0, 0, 0, 1, 0);
        m.candle(64);
        m.terms(9, 9);
        refusals(2, 0, 0, 1, 0);
        m.turn(0);
        m.force(3);
        m.back(1);
        refusals(2, 3, 0, 1, 0);
        for (int i = 0; i < 4; i++) {
            m.undo();
        }
        refusals(2, 3, 4, 1, 0);
        for (int i = 0; i < 5; i++) {
            m.row();
        }
        refusals(2, 3, 4, 1, 5);
        refusedWith(-6);
        m.back(0);
        refusedWith(0);
        refusals(2, 3, 4, 1, 5);
    }

    /** A seventh law is refused even if texts could not be read, and takes no place; behind back() there is room again. */
    private static void roomAgain() {
        begin("no room, and room again");
        m.image(0);
        fullHall(m);
        fullThings(m);
        fullLaws(m);
        due("pivot(8, 0, 0)", m.pivot(8, 0, 0), -5);
        due("put(0, 0): a pivot goes", m.put(0, 0), 1);
        due("pivot(8, 0, 0)", m.pivot(8, 0, 0), 7);
        due("pivot(9, 0, 0)", m.pivot(9, 0, 0), -5);
        m.back(0);
        due("candle(9)", m.candle(9), 0);
        due("thing(9, 9, 9)", m.thing(9, 9, 9), 0);
        due("heir(9, 9)", m.heir(9, 9), 0);
        due("law()", law("claims 2"), 0);
        refusals(0, 0, 0, 2, 0);
        for (int i = 1; i <= 10; i++) {
            due("telling", m.telling(0, 0, 0), i);
        }
        due("telling", m.telling(0, 0, 0), -5);
        due("forget()", m.forget(), 10);
        due("telling", m.telling(0, 0, 0), 1);
    }

    public static void main(String[] args) {
        kinds();
        pivots();
        heirs();
        thingsAndTerms();
        memory();
        texts();
        lawsImagesAndDraughts();
        counters();
        roomAgain();
        finish("all is refused as due, and nothing else by it");
    }
}
