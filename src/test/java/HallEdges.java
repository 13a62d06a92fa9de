/** Terms I and what promises 1 to 16, 43 to 46 say of its edges, sentence by sentence. */
public final class HallEdges extends Due {
    private static final int[] GLASSES = {1, 2, 4, 5};
    private static final int[] TURNED = {2, 1, 5, 4};

    private static void anEmptyHall() {
        begin("promise 1: an empty hall");
        for (int cell = 0; cell < 64; cell++) {
            due("at(" + cell + ", 0)", m.at(cell, 0), 0);
            for (int what = 1; what <= 4; what++) {
                due("at(" + cell + ", " + what + ")", m.at(cell, what), NONE);
            }
        }
        int[] counts = {0, 0, 0, 0, 0, 0, 0, 0, 0, 0, 0, 0, 0, 0, NONE, 3, 0, 2};
        for (int what = 0; what < counts.length; what++) {
            due("count(" + what + ")", m.count(what), counts[what]);
        }
        again();
        due("dust()", m.dust(), 0);
        due("fault()", m.fault(), NONE);
        due("stopped()", m.stopped(), NONE);
        due("status()", m.status(), 0);
        due("of(0, 0)", m.of(0, 0), NONE);
        due("drawn(0, 0)", m.drawn(0, 0), NONE);
        due("forget()", m.forget(), 0);
        due("lit(-1)", m.lit(-1), 0);
        due("lit(0)", m.lit(0), NONE);
        due("views(0)", m.views(0), 0);
        due("pair(0, 1)", m.pair(0, 1), NONE);
        due("claim(0, 0, 0)", m.claim(0, 0, 0), NONE);
        due("owner(0, 0)", m.owner(0, 0), NONE);
        due("owner(0, 1)", m.owner(0, 1), NONE);
        due("estate(0)", m.estate(0), NONE);
        due("reveal(0, 0, 6, 0)", m.reveal(0, 0, 6, 0), NONE);
        due("hide(0, 0, -1)", m.hide(0, 0, -1), NONE);
        due("hides(0)", m.hides(0), NONE);
        due("stranger(-1)", m.stranger(-1), 64);
        due("stranger(63)", m.stranger(63), 63);
        due("stranger(64)", m.stranger(64), NONE);
        int[] sets = {64, 2016, 41664, 635376};
        for (int n = 1; n <= 4; n++) {
            due("stand(" + n + ", 0)", m.stand(n, 0), sets[n - 1]);
            due("stand(" + n + ", " + n + ")", m.stand(n, n), n - 1);
        }
        int[] turned = {1, 0, 0};
        int[] peace = {0, 0, 1};
        int[] quarrel = {0, 0, NONE};
        for (int what = 0; what < 3; what++) {
            due("turned(" + what + ")", m.turned(what), turned[what]);
            due("peace(" + what + ")", m.peace(what), peace[what]);
            due("quarrel(" + what + ")", m.quarrel(what), quarrel[what]);
        }
        due("draughts(0, 48)", m.draughts(0, 48), 0);
        due("drawn(0, 0)", m.drawn(0, 0), NONE);
        due("orders()", orders("turn pivots-1 if pivots>0;wait if rent+estate 0+estate 5=0;wait if sees 0 0+1=0"), 2);
    }

    private static void aFullHall() {
        begin("a hall with a pillar on every cell");
        for (int cell = 0; cell < 64; cell++) {
            due("put(" + cell + ", 3)", m.put(cell, 3), 0);
        }
        for (int cell = 0; cell < 64; cell += 9) {
            due("heir(" + cell + ", 0)", m.heir(cell, 0), -3);
        }
        due("thing(9, 5, 0)", m.thing(9, 5, 0), 0);
        due("candle(9)", m.candle(9), 0);
        due("glance(8, 9)", m.glance(8, 9), 1);
        due("glance(8, 10)", m.glance(8, 10), NONE);
        due("ray(8, 1, -1)", m.ray(8, 1, -1), 1);
        due("ray(8, 3, -1)", m.ray(8, 3, -1), 0);
        due("views(10)", m.views(10), 1);
        due("views(9)", m.views(9), 1);
        due("views(11)", m.views(11), 0);
        due("lit(9)", m.lit(9), 0);
        due("lit(10)", m.lit(10), 1);
        due("lit(11)", m.lit(11), NONE);
        due("lit(-1)", m.lit(-1), 5);
        due("stranger(-1)", m.stranger(-1), 0);
        due("stranger(0)", m.stranger(0), NONE);
        for (int n = 1; n <= 4; n++) {
            due("stand(" + n + ", 0)", m.stand(n, 0), 0);
            due("stand(" + n + ", 1)", m.stand(n, 1), NONE);
        }
        due("hides(0)", m.hides(0), 0);
        m.terms(2, 10);
        due("draughts(7, 48)", m.draughts(7, 48), 48 * 5);
        due("drawn(0, 0)", m.drawn(0, 0), 9);
        due("drawn(0, 1)", m.drawn(0, 1), 0);
        for (int cell = 0; cell < 64; cell++) {
            due("put(" + cell + ", 0)", m.put(cell, 0), 3);
        }
        due("stranger(-1)", m.stranger(-1), 64);
    }

    private static void cells() {
        begin("CELLS 0 .. 63 (8 y and x; x, y 0 .. 7)");
        int[] corners = {0, 7, 56, 63};
        for (int cell : corners) {
            due("put(" + cell + ", 3)", m.put(cell, 3), 0);
            due("put(" + cell + ", 0)", m.put(cell, 0), 3);
            due("thing(" + cell + ", 1, 0)", m.thing(cell, 1, 0) >= 0 ? 1 : 0, 1);
            due("candle(" + cell + ")", m.candle(cell) >= 0 ? 1 : 0, 1);
            due("glance(" + cell + ", " + cell + ")", m.glance(cell, cell), 0);
            due("lit(" + cell + ")", m.lit(cell), 0);
            due("telling(" + cell + ", " + cell + ", 0)", m.telling(cell, cell, 0) > 0 ? 1 : 0, 1);
        }
        for (int cell : new int[] {-1, 64, Integer.MIN_VALUE, Integer.MAX_VALUE}) {
            for (int what = 0; what <= 4; what++) {
                due("at(" + cell + ", " + what + ")", m.at(cell, what), NONE);
            }
            due("glance(" + cell + ", 0)", m.glance(cell, 0), NONE);
            due("glance(0, " + cell + ")", m.glance(0, cell), NONE);
            due("views(" + cell + ")", m.views(cell), NONE);
            due("ray(" + cell + ", 1, -1)", m.ray(cell, 1, -1), NONE);
            due("hides(" + cell + ")", m.hides(cell), NONE);
            due("lit(" + cell + ")", m.lit(cell), cell == NONE ? 4 : NONE);
        }
        again();
        m.heir(0, 0);
        m.thing(63, 1, 0);
        m.thing(7, 1, 0);
        m.thing(56, 1, 0);
        m.thing(0, 1, 0);
        inForce("claims 100+10*x+y");
        int[] tens = {0, 170, 107, 100};
        for (int thing = 1; thing < 4; thing++) {
            due("claim(0, " + thing + ", 0)", m.claim(0, thing, 0), tens[thing]);
        }
        m.move(0, 61);
        due("claim(0, 0, 0)", m.claim(0, 0, 0), 177);
    }

    private static void kinds() {
        begin("KIND: 0 nothing .. 5");
        int was = 0;
        for (int kind = 5; kind >= 0; kind--) {
            due("put(9, " + kind + ")", m.put(9, kind), was);
            due("at(9, 0)", m.at(9, 0), kind);
            was = kind;
        }
        m.heir(9, 0);
        due("put(9, 0) where a heir is", m.put(9, 0), 0);
        refusedWith(0);
        due("at(9, 2)", m.at(9, 2), 0);
        m.thing(10, 1, 0);
        m.candle(10);
        due("put(10, 3) where thing and candle are", m.put(10, 3), 0);
        due("thing(10, 1, 0) on a pillar", m.thing(10, 1, 0), 1);
        due("candle(10) on a pillar", m.candle(10), 1);
    }

    private static void pivots() {
        begin("PIVOTS 0 .. 7 (8 at most), OWNER 0 .. 5, NONE, PRICE 0 .. 99");
        int[] owners = {NONE, 0, 1, 2, 3, 4, 5, NONE};
        int[] prices = {0, 99, 1, 98, 50, 0, 99, 7};
        for (int i = 0; i < 8; i++) {
            m.put(63 - 9 * i, GLASSES[i % 4]);
            due("pivot " + i, m.pivot(63 - 9 * i, owners[i], prices[i]), i);
        }
        for (int i = 0; i < 8; i++) {
            due("of(" + i + ", 0)", m.of(i, 0), 63 - 9 * i);
            due("of(" + i + ", 1)", m.of(i, 1), owners[i]);
            due("of(" + i + ", 2)", m.of(i, 2), prices[i]);
            due("at(" + (63 - 9 * i) + ", 1)", m.at(63 - 9 * i, 1), i);
            due("turn(" + i + ")", m.turn(i), TURNED[i % 4]);
            due("turn(" + i + ")", m.turn(i), GLASSES[i % 4]);
        }
        for (int what : new int[] {-1, 3, Integer.MAX_VALUE, Integer.MIN_VALUE}) {
            due("of(0, " + what + ")", m.of(0, what), NONE);
            due("of(7, " + what + ")", m.of(7, what), NONE);
        }
        for (int pivot : new int[] {-1, 8, Integer.MAX_VALUE, Integer.MIN_VALUE}) {
            due("of(" + pivot + ", 0)", m.of(pivot, 0), NONE);
        }
        due("turned(0)", m.turned(0), 256);
        due("peace(2)", m.peace(2), 256);
    }

    /** The cells of the pivots that are left, told by one number. */
    private static void left(String what, int... cells) {
        due("count(0) " + what, m.count(0), cells.length);
        for (int i = 0; i < 8; i++) {
            boolean there = i < cells.length;
            due("of(" + i + ", 0) " + what, m.of(i, 0), there ? cells[i] : NONE);
            due("of(" + i + ", 1) " + what, m.of(i, 1), there ? cells[i] % 6 : NONE);
            due("of(" + i + ", 2) " + what, m.of(i, 2), there ? cells[i] + 20 : NONE);
        }
    }

    private static void eightPivots() {
        again();
        for (int cell = 0; cell < 8; cell++) {
            m.put(cell, 1);
            m.pivot(cell, cell % 6, cell + 20);
        }
    }

    private static void pivotsThatGo() {
        begin("a PIVOT there goes, those behind it move up");
        eightPivots();
        m.put(7, 0);
        left("without the last", 0, 1, 2, 3, 4, 5, 6);
        m.put(0, 3);
        left("without the first", 1, 2, 3, 4, 5, 6);
        m.put(3, 1);
        left("without one between, put as it was", 1, 2, 4, 5, 6);
        m.put(4, 6);
        m.put(40, 1);
        left("as they were", 1, 2, 4, 5, 6);
        due("pivot(3, 3, 23)", m.pivot(3, 3, 23), 5);
        left("with one behind", 1, 2, 4, 5, 6, 3);
        due("turn(5)", m.turn(5), 2);
        due("at(3, 0)", m.at(3, 0), 2);
        due("turn(6)", m.turn(6), -2);
        eightPivots();
        due("row()", row("\0\6\1\377\0\6\5\6"), 3);
        left("behind a row", 0, 2, 4, 6, 7);
        eightPivots();
        due("row()", row("\0\0\0\0\0\0\0\0\0"), 8);
        left("behind a row of eight");
        due("turn(0)", m.turn(0), -2);
    }

    private static void heirsThingsCandles() {
        begin("HEIRS 6 at most, AGE 0 .. 99; THINGS 12, WORTH 1 .. 99, HIGH 0 .. 9; CANDLES 4");
        for (int i = 0; i < 6; i++) {
            due("heir(63, " + (i * 99 / 5) + ")", m.heir(63, i * 99 / 5), i);
        }
        due("heir(0, 0)", m.heir(0, 0), -5);
        due("at(63, 2), the first", m.at(63, 2), 0);
        m.move(0, 62);
        due("at(63, 2), the first", m.at(63, 2), 1);
        for (int i = 0; i < 12; i++) {
            due("thing(5, " + (1 + i * 98 / 11) + ", " + (i * 9 / 11) + ")", m.thing(5, 1 + i * 98 / 11, i * 9 / 11), i);
        }
        due("thing(0, 1, 0)", m.thing(0, 1, 0), -5);
        due("at(5, 3), the first", m.at(5, 3), 0);
        for (int i = 0; i < 4; i++) {
            due("candle(6)", m.candle(6), i);
        }
        due("candle(0)", m.candle(0), -5);
        due("at(6, 4), the first", m.at(6, 4), 0);
        due("views(5) of twelve", m.views(5), 4095);
        int worth = 0;
        for (int i = 0; i < 12; i++) {
            worth += 1 + i * 98 / 11;
        }
        due("lit(-1), each once", m.lit(-1), worth);
        due("at(5, 5)", m.at(5, 5), NONE);
        due("at(5, -1)", m.at(5, -1), NONE);
        again();
        m.heir(0, 99);
        m.heir(9, 0);
        m.thing(1, 99, 9);
        m.thing(2, 1, 0);
        inForce("claims age*5+worth*4+high");
        due("claim(0, 0, 0)", m.claim(0, 0, 0), 495 + 396 + 9);
        due("claim(0, 1, 0)", m.claim(0, 1, 0), 499);
        due("claim(1, 0, 0)", m.claim(1, 0, 0), 396 + 9);
    }

    private static void terms() {
        begin("TERMS: 0 GLANCES 1 .. 6 (3), 1 HOUR 0 .. 23 (0), 2 DRAUGHT 0 .. 10 (2)");
        int[] least = {1, 0, 0};
        int[] most = {6, 23, 10};
        int[] first = {3, 0, 2};
        for (int what = 0; what < 3; what++) {
            due("count(" + (15 + what) + ")", m.count(15 + what), first[what]);
            due("terms at least", m.terms(what, least[what]), first[what]);
            due("terms below", m.terms(what, least[what] - 1), -1);
            due("terms at most", m.terms(what, most[what]), least[what]);
            due("terms beyond", m.terms(what, most[what] + 1), -1);
            due("count(" + (15 + what) + ")", m.count(15 + what), most[what]);
        }
        due("count(15)", m.count(15), 6);
        due("count(16)", m.count(16), 23);
        refusals(6, 0, 0, 0, 0);
    }

    private static void undoOfSixteen() {
        begin("undo: 16 are kept");
        m.put(1, 1);
        m.pivot(1, 0, 0);
        for (int turns = 1; turns <= 18; turns++) {
            m.turn(0);
            due("count(7) behind " + turns, m.count(7), Math.min(16, turns));
        }
        for (int left = 16; left > 0; left--) {
            due("count(7)", m.count(7), left);
            due("undo()", m.undo(), 0);
        }
        due("undo()", m.undo(), -3);
        due("at(1, 0): the first two stay", m.at(1, 0), 1);
        m.turn(0);
        due("undo()", m.undo(), 0);
        due("at(1, 0)", m.at(1, 0), 1);
        again();
        m.heir(0, 0);
        for (int i = 1; i <= 17; i++) {
            due("move(0, " + i + ")", m.move(0, i), i - 1);
        }
        for (int i = 16; i >= 1; i--) {
            due("undo()", m.undo(), 1);
            due("at(" + i + ", 2)", m.at(i, 2), 0);
        }
        due("undo(): the first of seventeen is not kept", m.undo(), -3);
        due("at(1, 2)", m.at(1, 2), 0);
    }

    private static void undoOfOrders() {
        begin("undo: by ORDERS, too");
        m.put(1, 1);
        m.pivot(1, 0, 0);
        m.heir(0, 0);
        m.move(0, 2);
        due("orders()", orders("turn 0 times 15"), 15);
        due("count(7)", m.count(7), 16);
        due("orders()", orders("wait times 20"), 20);
        due("count(7): waiting is not undone", m.count(7), 16);
        due("orders() that can't be", orders("turn 0 times 20;move 0 to 5;turn 1"), -3);
        due("count(7)", m.count(7), 16);
        for (int i = 0; i < 15; i++) {
            due("undo()", m.undo(), 0);
        }
        due("at(1, 0)", m.at(1, 0), 1);
        due("undo()", m.undo(), 1);
        due("at(0, 2)", m.at(0, 2), 0);
        due("undo()", m.undo(), -3);
        due("orders()", orders("move 0 to 8;turn 0;move 0 to 9 times 20"), 22);
        for (int i = 0; i < 16; i++) {
            due("undo()", m.undo(), 1);
        }
        due("at(9, 2): moves within the cell", m.at(9, 2), 0);
        due("undo()", m.undo(), -3);
        due("count(16)", m.count(16), 20);
    }

    private static void undoIsForgotten() {
        begin("nothing that was ahead of a put() or row() that was not REFUSED can be undone");
        m.put(1, 1);
        m.pivot(1, 0, 0);
        m.heir(0, 0);
        m.turn(0);
        m.put(0, 3);
        refusedWith(-3);
        m.put(64, 0);
        row("\10");
        m.row();
        due("count(7) behind refused ones", m.count(7), 1);
        row("\7");
        due("count(7) behind a row without kinds", m.count(7), 0);
        m.turn(0);
        row("\7\6");
        due("count(7) behind a row of dust", m.count(7), 0);
        m.turn(0);
        m.put(63, 0);
        due("count(7) behind a put that changes nothing", m.count(7), 0);
        m.turn(0);
        due("count(7): what comes behind can", m.count(7), 1);
        m.image(0);
        m.terms(0, 6);
        m.thing(0, 1, 0);
        m.candle(0);
        m.heir(0, 0);
        m.put(63, 6);
        m.pivot(1, 0, 0);
        m.forget();
        m.telling(0, 0, 0);
        m.hint(0, 0);
        m.draughts(0, 3);
        inForce("fogs");
        due("count(7) behind all else", m.count(7), 1);
        m.back(1);
        m.back(2);
        due("count(7) behind a refused back()", m.count(7), 1);
        m.back(0);
        due("count(7) behind back()", m.count(7), 0);
        due("undo()", m.undo(), -3);
    }

    private static void tape() {
        begin("feed, end: a TAPE of at most 400 bytes");
        for (int bytes = 20; bytes <= 400; bytes += 20) {
            due("feed", m.feed(0, 0, 0, 0, 0), bytes);
        }
        due("feed beyond", m.feed(1, 1, 1, 1, 1), NONE);
        due("count(8)", m.count(8), 400);
        due("end(401)", m.end(401), NONE);
        due("end(400)", m.end(400), 400);
        due("end(399)", m.end(399), 399);
        due("end(400)", m.end(400), NONE);
        due("feed beyond", m.feed(1, 1, 1, 1, 1), NONE);
        due("end(381)", m.end(381), 381);
        due("feed beyond", m.feed(1, 1, 1, 1, 1), NONE);
        due("count(8)", m.count(8), 381);
        due("end(380)", m.end(380), 380);
        due("feed", m.feed(1, 1, 1, 1, 1), 400);
        due("end(-1)", m.end(-1), NONE);
        due("end(MIN)", m.end(Integer.MIN_VALUE), NONE);
        due("end(MAX)", m.end(Integer.MAX_VALUE), NONE);
        due("count(8)", m.count(8), 400);
        due("row() of 400", m.row(), 8);
        due("dust()", m.dust(), 391);
        due("count(8)", m.count(8), 0);
        due("end(1)", m.end(1), NONE);
        due("end(0)", m.end(0), 0);
        due("feed", m.feed(0, 0, 0, 0, 0), 20);
        due("end(1)", m.end(1), 1);
        due("feed behind one byte", m.feed(0, 0, 0, 0, 0), 21);
        refusals(0, 0, 0, 0, 0);
        begin("feed: four of each number, the highest first");
        m.feed(0x02010203, 0x04050001, 0x02000000, 0, 0);
        m.end(9);
        due("row()", m.row(), 8);
        int[] kinds = {1, 2, 3, 4, 5, 0, 1, 2};
        for (int x = 0; x < 8; x++) {
            due("at(" + (16 + x) + ", 0)", m.at(16 + x, 0), kinds[x]);
        }
        m.feed(0x03000000, 0, 0, 0, 0x00000001);
        m.end(1);
        m.feed(0x01020304, 0x05010203, 0, 0, 0);
        m.end(9);
        due("row() of two feeds", m.row(), 8);
        due("at(24, 0)", m.at(24, 0), 1);
        due("at(28, 0)", m.at(28, 0), 5);
        due("at(31, 0)", m.at(31, 0), 3);
        m.feed(0x04800181, 0xff020000, 0, 0, 0);
        m.end(6);
        due("row() of bytes above 127", m.row(), 2);
        due("dust()", m.dust(), 3);
        due("at(33, 0)", m.at(33, 0), 1);
        due("at(36, 0)", m.at(36, 0), 2);
        m.feed(0, 0, 0, 0, 0x05040302);
        m.end(0);
        m.feed(0x05000000, 0, 0, 0, 0x01020304);
        due("row() of twenty", m.row(), 8);
        due("at(40, 0)", m.at(40, 0), 0);
        due("dust() beyond x 7", m.dust(), 11);
    }

    private static void rows() {
        begin("ROW: the TAPE's first byte is y, then KINDS from x 0 on");
        for (int y = 0; y < 8; y++) {
            due("row()", row((char) y + "\1\2\3\4\5\0\1\2"), 8);
            due("dust()", m.dust(), 0);
            for (int x = 0; x < 8; x++) {
                due("at(" + (8 * y + x) + ", 0)", m.at(8 * y + x, 0), (x + 1) % 6);
            }
        }
        due("row() of y 8", row("\10\0\0"), -6);
        due("row() of y 255", row("\377\0\0"), -6);
        due("row() of nothing", row(""), -6);
        due("at(0, 0)", m.at(0, 0), 1);
        due("dust() as it was", m.dust(), 0);
        due("row() of nine kinds", row("\0\0\0\0\0\0\0\0\0\1"), 8);
        due("dust()", m.dust(), 1);
        due("at(8, 0): not in the next row", m.at(8, 0), 1);
        due("row() of two kinds", row("\2\3\3"), 2);
        due("at(18, 0): as it was", m.at(18, 0), 3);
        due("at(19, 0): as it was", m.at(19, 0), 4);
        begin("ROW: one that can't be leaves the CELL as it was");
        m.heir(0, 0);
        m.heir(1, 0);
        m.put(2, 5);
        m.put(3, 4);
        m.put(4, 2);
        due("row()", row("\0\1\0\5\6\377\6"), 2);
        due("dust()", m.dust(), 4);
        due("at(0, 0)", m.at(0, 0), 0);
        due("at(1, 0)", m.at(1, 0), 0);
        due("at(2, 0)", m.at(2, 0), 5);
        due("at(3, 0)", m.at(3, 0), 4);
        due("at(4, 0)", m.at(4, 0), 2);
        due("at(0, 2)", m.at(0, 2), 0);
        for (int kind = 1; kind <= 5; kind++) {
            due("row() on a heir", row("\0" + (char) kind), 0);
            due("dust()", m.dust(), 1);
        }
        row("");
        due("dust() behind a refused row()", m.dust(), 1);
        due("row() of nothing but 0 on a heir", row("\0\0"), 1);
        due("dust()", m.dust(), 0);
        refusedWith(0);
    }

    private static void counts() {
        begin("count: NONE for others");
        for (int what : new int[] {-1, 18, Integer.MIN_VALUE, Integer.MAX_VALUE}) {
            due("count(" + what + ")", m.count(what), NONE);
        }
        begin("count: 0 .. 7 of all that can be, 14: the LAW in FORCE");
        for (int i = 0; i < 8; i++) {
            m.put(i, 1);
            m.pivot(i, i % 6, i);
        }
        for (int i = 0; i < 6; i++) {
            m.heir(8 + i, i);
            law("claims " + i);
        }
        for (int i = 0; i < 12; i++) {
            m.thing(i, 1, 0);
        }
        for (int i = 0; i < 4; i++) {
            m.candle(i);
        }
        for (int i = 0; i < 10; i++) {
            m.telling(0, 0, 0);
        }
        for (int i = 0; i < 6; i++) {
            m.hint(5, 0);
        }
        for (int i = 0; i < 16; i++) {
            m.turn(7);
        }
        m.force(5);
        int[] full = {8, 6, 12, 4, 6, 10, 6, 16};
        for (int round = 0; round < 2; round++) {
            for (int what = 0; what < full.length; what++) {
                due("count(" + what + ")", m.count(what), full[what]);
            }
            m.put(0, 6);
            m.pivot(8, 6, 0);
            m.heir(15, 0);
            m.thing(0, 1, 0);
            m.candle(0);
            law("claims 1");
            m.telling(0, 0, 0);
            m.hint(5, 0);
            m.turn(8);
        }
        due("count(14)", m.count(14), 5);
        refusals(4, 2, 0, 12, 0);
        due("force(-1)", m.force(-1), 5);
        due("count(14)", m.count(14), NONE);
    }

    public static void main(String[] args) {
        anEmptyHall();
        aFullHall();
        cells();
        kinds();
        pivots();
        pivotsThatGo();
        heirsThingsCandles();
        terms();
        undoOfSixteen();
        undoOfOrders();
        undoIsForgotten();
        tape();
        rows();
        counts();
        finish("the edges of the hall hold");
    }
}
