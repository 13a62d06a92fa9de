import java.util.List;
import java.util.function.ToIntFunction;

/** Terms IV and what promises 41 to 46 say of its edges, sentence by sentence; a run of 512 calls. */
public final class HourEdges extends Due {
    private static long s;

    private static int draw(int of) {
        s = (s * 1103 + 12345) % 1000003;
        return (int) (s % of);
    }

    private static void seeds() {
        begin("s is the SEED (0 .. 1,000,000); HOURS 0 .. 48");
        for (int seed : new int[] {-1, 1000001, Integer.MIN_VALUE, Integer.MAX_VALUE}) {
            due("draughts(" + seed + ", 1)", m.draughts(seed, 1), -1);
            refusedWith(-1);
        }
        for (int n : new int[] {-1, 49, Integer.MIN_VALUE, Integer.MAX_VALUE}) {
            due("draughts(0, " + n + ")", m.draughts(0, n), -1);
            refusedWith(-1);
        }
        refusals(8, 0, 0, 0, 0);
        m.candle(27);
        m.thing(27, 3, 0);
        due("draughts(0, 0)", m.draughts(0, 0), 0);
        refusedWith(0);
        due("drawn(0, 0)", m.drawn(0, 0), 27);
        due("draughts(1000000, 0)", m.draughts(1000000, 0), 0);
        m.terms(2, 0);
        due("draughts(0, 48)", m.draughts(0, 48), 144);
        due("draughts(1000000, 48)", m.draughts(1000000, 48), 144);
        due("drawn(0, 1): no draught", m.drawn(0, 1), 0);
    }

    /** An empty hall and a hall with some kinds: where four candles go, by the document's words. */
    private static void where(int seed, int hours, int draught, int... kinds) {
        begin("DRAUGHTS by " + draught + " of seed " + seed);
        int[] cells = {0, 63, 7, 36};
        int[] went = new int[4];
        int[] hall = new int[64];
        for (int i = 0; i < kinds.length; i++) {
            m.put(kinds[i], 1 + i % 5);
            hall[kinds[i]] = 1 + i % 5;
        }
        for (int cell : cells) {
            m.candle(cell);
        }
        m.terms(2, draught);
        s = seed;
        for (int hour = 0; hour < hours; hour++) {
            for (int candle = 0; candle < 4; candle++) {
                if (draw(10) < draught) {
                    int direction = draw(4);
                    int x = cells[candle] % 8 + (direction == 1 ? 1 : direction == 3 ? -1 : 0);
                    int y = cells[candle] / 8 + (direction == 2 ? 1 : direction == 0 ? -1 : 0);
                    if (x >= 0 && x < 8 && y >= 0 && y < 8 && hall[8 * y + x] == 0) {
                        cells[candle] = 8 * y + x;
                        went[candle]++;
                    }
                }
            }
        }
        due("draughts(" + seed + ", " + hours + ")", m.draughts(seed, hours), 0);
        int[] first = {0, 63, 7, 36};
        for (int candle = 0; candle < 4; candle++) {
            due("drawn(" + candle + ", 0)", m.drawn(candle, 0), cells[candle]);
            due("drawn(" + candle + ", 1)", m.drawn(candle, 1), went[candle]);
            due("at(" + first[candle] + ", 4): on paper", m.at(first[candle], 4), candle);
        }
        due("drawn(4, 0)", m.drawn(4, 0), NONE);
    }

    private static void goes() {
        int[] seeds = {0, 1, 2, 3, 7, 12345, 999999, 1000000};
        for (int seed : seeds) {
            for (int draught = 0; draught <= 10; draught++) {
                where(seed, 48, draught);
                where(seed, 48, draught, 1, 8, 15, 55, 37, 28, 20, 45, 62);
            }
            for (int hours = 0; hours < 6; hours++) {
                where(seed, hours, 10);
            }
        }
        begin("a DRAW of 10: below DRAUGHT");
        // seed 0: 12345 (5 of 10), then 628841 (1 of 4: right)
        m.candle(0);
        for (int draught = 0; draught <= 10; draught++) {
            m.terms(2, draught);
            m.draughts(0, 1);
            due("drawn(0, 0) by " + draught, m.drawn(0, 0), draught > 5 ? 1 : 0);
            due("drawn(0, 1) by " + draught, m.drawn(0, 1), draught > 5 ? 1 : 0);
        }
        for (int kind = 1; kind <= 5; kind++) {
            m.put(1, kind);
            m.draughts(0, 1);
            due("drawn(0, 0) onto kind " + kind, m.drawn(0, 0), 0);
            due("drawn(0, 1)", m.drawn(0, 1), 0);
        }
        m.put(1, 0);
        m.heir(1, 0);
        m.thing(1, 1, 0);
        m.candle(1);
        m.draughts(0, 1);
        due("drawn(0, 0) to where heir, thing, candle are", m.drawn(0, 0), 1);
        begin("one CELL there, if that is in the HALL");
        int[] right = {7, 15, 31, 63};
        for (int cell : right) {
            m.candle(cell);
        }
        m.terms(2, 10);
        m.draughts(0, 1);
        due("drawn(0, 0): not over the edge", m.drawn(0, 0), 7);
        due("drawn(0, 1)", m.drawn(0, 1), 0);
        begin("a CANDLE on a KIND goes like others");
        m.put(0, 3);
        m.candle(0);
        m.terms(2, 10);
        m.draughts(0, 1);
        due("drawn(0, 0)", m.drawn(0, 0), 1);
    }

    private static void rents() {
        begin("the RENT of that HOUR (the next one, 0 behind 23) is due");
        m.put(3, 2);
        m.candle(0);
        m.thing(11, 10, 0);
        m.terms(2, 0);
        m.image(0);
        for (int fog = 0; fog < 24; fog += 23) {
            m.back(0);
            inForce("fogs if hour=" + fog);
            for (int hour = 0; hour < 24; hour++) {
                m.terms(1, hour);
                int next = hour == 23 ? 0 : hour + 1;
                due("draughts(0, 1) from " + hour + ", fog at " + fog, m.draughts(0, 1), next == fog ? 0 : 10);
                due("draughts(0, 24)", m.draughts(0, 24), 230);
                due("draughts(0, 48)", m.draughts(0, 48), 460);
                due("count(16): on paper", m.count(16), hour);
            }
        }
        m.terms(1, 0);
        due("draughts(0, 22) from 0, fog at 23", m.draughts(0, 22), 220);
        due("draughts(0, 23)", m.draughts(0, 23), 220);
        due("draughts(0, 25)", m.draughts(0, 25), 240);
        begin("RENT: WORTH of all THINGS that are LIT, the most that can be");
        for (int thing = 0; thing < 12; thing++) {
            m.thing(0, 99, 0);
        }
        for (int candle = 0; candle < 4; candle++) {
            m.candle(0);
        }
        m.terms(2, 0);
        due("draughts(5, 48)", m.draughts(5, 48), 48 * 12 * 99);
        begin("RENT behind the candles went");
        m.candle(0);
        m.thing(9, 5, 0);
        m.terms(2, 6);
        due("draughts(0, 1)", m.draughts(0, 1), 5);
        due("lit(-1): on paper", m.lit(-1), 0);
    }

    private static void drawnOf() {
        begin("drawn: NONE");
        due("drawn(0, 0) ahead of any", m.drawn(0, 0), NONE);
        m.draughts(0, 5);
        due("drawn(0, 0) of no candle", m.drawn(0, 0), NONE);
        for (int i = 0; i < 4; i++) {
            m.candle(9 * i);
        }
        due("drawn(0, 0): not behind the latest", m.drawn(0, 0), NONE);
        m.draughts(0, 0);
        for (int i = 0; i < 4; i++) {
            due("drawn(" + i + ", 0)", m.drawn(i, 0), 9 * i);
            due("drawn(" + i + ", 1)", m.drawn(i, 1), 0);
        }
        for (int n : new int[] {-1, 4, Integer.MIN_VALUE, Integer.MAX_VALUE}) {
            due("drawn(" + n + ", 0)", m.drawn(n, 0), NONE);
        }
        for (int n : new int[] {-1, 2, Integer.MIN_VALUE, Integer.MAX_VALUE}) {
            due("drawn(3, " + n + ")", m.drawn(3, n), NONE);
        }
        m.terms(2, 10);
        m.draughts(0, 1);
        due("drawn(0, 0)", m.drawn(0, 0), 1);
        m.draughts(0, 49);
        m.draughts(1000001, 0);
        due("drawn(0, 0) behind refused ones", m.drawn(0, 0), 1);
        m.draughts(0, 0);
        due("drawn(0, 0): the latest", m.drawn(0, 0), 0);
    }

    private static void imagesKeep() {
        begin("IMAGES 0, 1 keep all but ..");
        m.put(3, 2);
        m.pivot(3, 4, 44);
        m.heir(0, 10);
        m.thing(11, 10, 1);
        m.candle(1);
        m.telling(0, 11, 2);
        m.hint(0, 2);
        inForce("claims age");
        m.terms(0, 5);
        m.terms(1, 23);
        m.terms(2, 9);
        due("image(1)", m.image(1), 0);
        m.put(3, 5);
        m.put(4, 1);
        m.pivot(4, 0, 1);
        m.pivot(3, 0, 1);
        m.move(0, 60);
        m.heir(61, 99);
        m.thing(62, 99, 9);
        m.candle(63);
        m.forget();
        m.telling(63, 63, 0);
        m.telling(63, 0, 0);
        m.hint(1, 0);
        m.hint(1, 0);
        inForce("claims 1");
        m.terms(0, 1);
        m.terms(1, 1);
        m.terms(2, 1);
        due("back(1)", m.back(1), 0);
        int[] counts = {1, 1, 1, 1, 1, 1, 1, 0};
        for (int what = 0; what < counts.length; what++) {
            due("count(" + what + ")", m.count(what), counts[what]);
        }
        int[] rest = {0, 5, 23, 9};
        for (int what = 14; what <= 17; what++) {
            due("count(" + what + ")", m.count(what), rest[what - 14]);
        }
        due("at(3, 0)", m.at(3, 0), 2);
        due("at(4, 0)", m.at(4, 0), 0);
        due("of(0, 0)", m.of(0, 0), 3);
        due("of(0, 1)", m.of(0, 1), 4);
        due("of(0, 2)", m.of(0, 2), 44);
        due("at(0, 2)", m.at(0, 2), 0);
        due("at(11, 3)", m.at(11, 3), 0);
        due("at(1, 4)", m.at(1, 4), 0);
        due("claim(0, 0, 0)", m.claim(0, 0, 0), 10);
        due("lit(-1)", m.lit(-1), 10);
        due("turned(2)", m.turned(2), 0);
        due("turned(0)", m.turned(0), 1);
        due("stranger(0)", m.stranger(0), 11);
        due("heir 1", m.heir(60, 1), 1);
        due("thing 1", m.thing(60, 1, 0), 1);
        due("law 1", law("claims 3"), 1);
        begin("(IMAGES stay)");
        m.image(0);
        m.put(0, 1);
        m.image(1);
        m.put(0, 2);
        m.back(0);
        due("at(0, 0)", m.at(0, 0), 0);
        m.put(0, 3);
        m.back(1);
        due("at(0, 0)", m.at(0, 0), 1);
        m.put(0, 4);
        m.back(0);
        due("at(0, 0): once more", m.at(0, 0), 0);
        m.back(1);
        due("at(0, 0): once more", m.at(0, 0), 1);
        m.image(0);
        m.put(0, 5);
        m.back(0);
        due("at(0, 0): kept anew", m.at(0, 0), 1);
    }

    private static void imagesDoNotKeep() {
        begin("IMAGES keep all but the TAPE, FAULT, DUST, where ORDERS stopped, the latest DRAUGHTS");
        m.candle(0);
        m.terms(2, 10);
        m.image(0);
        m.feed(0, 0, 0, 0, 0);
        due("row()", m.row(), 8);
        due("dust()", m.dust(), 11);
        orders("wait;turn 0");
        due("stopped()", m.stopped(), 1);
        law("fogs fogs");
        due("fault()", m.fault(), 5);
        m.draughts(0, 1);
        due("drawn(0, 0)", m.drawn(0, 0), 1);
        m.feed(0, 0, 0, 0, 0);
        m.end(7);
        m.put(64, 0);
        m.back(0);
        due("count(8)", m.count(8), 7);
        due("dust()", m.dust(), 11);
        due("stopped()", m.stopped(), 1);
        due("fault()", m.fault(), 5);
        due("drawn(0, 0)", m.drawn(0, 0), 1);
        due("drawn(0, 1)", m.drawn(0, 1), 1);
        refusals(1, 0, 1, 0, 1);
        due("status()", m.status(), 0);
        m.put(64, 0);
        m.image(1);
        due("status() behind image()", m.status(), 0);
        refusals(2, 0, 1, 0, 1);
        begin("what can be undone (nothing, behind back())");
        m.heir(0, 0);
        m.move(0, 1);
        m.image(0);
        due("count(7): image() leaves it", m.count(7), 1);
        m.move(0, 2);
        m.back(0);
        due("count(7)", m.count(7), 0);
        due("undo()", m.undo(), -3);
        due("at(1, 2)", m.at(1, 2), 0);
    }

    /** Calls that status() does not tell of, most of them with numbers that can't be. */
    private static final List<ToIntFunction<MirrorHeirs>> OTHERS = List.of(
        h -> h.at(64, 0), h -> h.of(9, 9), h -> h.feed(0, 0, 0, 0, 0), h -> h.end(99), h -> h.end(-1), h -> h.end(0),
        h -> h.dust(), h -> h.fault(), h -> h.stopped(), h -> h.ray(64, 9, 9), h -> h.glance(64, 64), h -> h.glance(0, 0),
        h -> h.views(64), h -> h.pair(0, 0), h -> h.claim(9, 9, 9), h -> h.owner(9, 9), h -> h.estate(9), h -> h.lit(64),
        h -> h.lit(-1), h -> h.stand(5, 0), h -> h.stand(1, 0), h -> h.turned(9), h -> h.turned(0), h -> h.stranger(99),
        h -> h.forget(), h -> h.reveal(9, 9, 9, 9), h -> h.hide(9, 9, 9), h -> h.hides(64), h -> h.peace(9), h -> h.peace(0),
        h -> h.quarrel(9), h -> h.quarrel(0), h -> h.drawn(9, 9), h -> h.count(99), h -> h.status());

    /** The calls that status() tells of, in the document's order, each such that it is not refused. */
    private static final List<ToIntFunction<MirrorHeirs>> TOLD = List.of(
        h -> h.put(9, 1), h -> h.pivot(2, 0, 0), h -> h.turn(0), h -> h.heir(9, 9), h -> h.move(0, 9), h -> h.undo(),
        h -> h.thing(9, 9, 9), h -> h.candle(9), h -> h.terms(1, 1), h -> h.row(), h -> h.law(), h -> h.orders(),
        h -> h.force(-1), h -> h.telling(9, 9, 0), h -> h.hint(0, 0), h -> h.draughts(9, 9), h -> h.image(1), h -> h.back(0));
    private static final int ROW = 9;
    private static final int LAW = 10;

    private static void status() {
        begin("status: 0 if it was not, or ahead of any");
        due("status()", m.status(), 0);
        m.at(64, 0);
        m.end(1);
        m.estate(0);
        due("status() ahead of any", m.status(), 0);
        begin("status: other calls leave it, and are not REFUSED");
        m.put(64, 0);
        for (int i = 0; i < OTHERS.size(); i++) {
            OTHERS.get(i).applyAsInt(m);
            due("status() behind other call " + i, m.status(), -1);
        }
        refusals(1, 0, 0, 0, 0);
        for (int i = 0; i < TOLD.size(); i++) {
            begin("status: a call that is not REFUSED (" + i + ")");
            m.put(1, 1);
            m.put(2, 2);
            m.pivot(1, 0, 0);
            m.heir(0, 0);
            m.turn(0);
            law("fogs");
            m.image(0);
            write(i == ROW ? "\0" : i == LAW ? "fogs" : "wait");
            m.put(64, 0);
            due("status()", m.status(), -1);
            TOLD.get(i).applyAsInt(m);
            due("status() behind it", m.status(), 0);
            refusals(1, 0, 0, 0, 0);
        }
    }

    /** Each kind of call that keeps something, over and over: nothing but what the document counts runs out. */
    private static void aLongRun() {
        begin("at most 512 calls");
        m.image(0);
        m.image(1);
        int calls = 2;
        for (int round = 0; calls < 512; round++) {
            int[] answers = {m.feed(0x62617273, 0, 0, 0, 0), m.end(4), m.law(), m.force(0), m.heir(round % 64, 1), m.thing(round % 64, 1, 0),
                m.move(0, (round + 1) % 64), m.undo(), m.draughts(round, 48), m.image(1), m.back(1), m.estate(0), m.stand(4, 0), m.back(0)};
            int[] due = {20, 4, 0, NONE, 0, 0, round % 64, 1, 0, 0, 0, 0, answers[12], 0};
            for (int i = 0; i < due.length && calls < 512; i++, calls++) {
                due("call " + calls, answers[i], due[i]);
            }
        }
    }

    public static void main(String[] args) {
        seeds();
        goes();
        rents();
        drawnOf();
        imagesKeep();
        imagesDoNotKeep();
        status();
        aLongRun();
        finish("the edges of hours, images and status hold");
    }
}
