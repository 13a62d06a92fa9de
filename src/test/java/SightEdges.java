import java.util.ArrayDeque;
import java.util.Arrays;
import java.util.Deque;

/** Terms III and what promises 22 to 40 say of its edges, sentence by sentence. */
public final class SightEdges extends Due {
    // From 0 to the right, each is come to by the next glance if all ahead of it are falling.
    private static final int[] STAIRS = {1, 9, 10, 18, 19, 27, 28};

    private static void stairs(int kind) {
        for (int cell : STAIRS) {
            m.put(cell, kind);
        }
    }

    private static void beyondTheHall() {
        for (int half = 0; half < 2; half++) {
            begin("Beyond the HALL it ends");
            for (int cell = 32 * half; cell < 32 * half + 32; cell++) {
                int x = cell % 8;
                int y = cell / 8;
                int[] far = {y, 7 - x, 7 - y, x};
                int[] step = {-8, 1, 8, -1};
                for (int direction = 0; direction < 4; direction++) {
                    String call = "ray(" + cell + ", " + direction + ", ";
                    due(call + "-1)", m.ray(cell, direction, -1), far[direction]);
                    int last = far[direction] - 1;
                    due(call + last + ")", m.ray(cell, direction, Math.max(0, last)), last < 0 ? NONE : cell + (last + 1) * step[direction]);
                    due(call + (last + 1) + ")", m.ray(cell, direction, last + 1), NONE);
                }
            }
        }
        begin("ray: NONE");
        for (int n : new int[] {-1, 4, Integer.MIN_VALUE, Integer.MAX_VALUE}) {
            due("ray(27, " + n + ", -1)", m.ray(27, n, -1), NONE);
        }
        for (int n : new int[] {-2, 4, Integer.MIN_VALUE, Integer.MAX_VALUE}) {
            due("ray(27, 1, " + n + ")", m.ray(27, 1, n), NONE);
        }
        due("ray(27, 1, 3)", m.ray(27, 1, 3), 31);
    }

    private static void glasses() {
        begin("a GLASS turns the DIRECTION");
        int[] ahead = {35, 26, 19, 28};
        int[][] behind = {{28, 19, 26, 35}, {26, 35, 28, 19}};
        for (int falling = 0; falling < 2; falling++) {
            for (int cracked = 0; cracked < 2; cracked++) {
                m.put(27, 1 + falling + 3 * cracked);
                for (int direction = 0; direction < 4; direction++) {
                    int from = ahead[direction];
                    int on = 27 + (27 - from);
                    String call = "glance(" + from + ", " + behind[falling][direction] + ") by " + m.at(27, 0);
                    due("ray(" + from + ", " + direction + ", 1) by " + m.at(27, 0), m.ray(from, direction, 1), behind[falling][direction]);
                    due(call, m.glance(from, behind[falling][direction]), 2);
                    due("glance(" + from + ", 27)", m.glance(from, 27), 1);
                    due("glance(" + from + ", " + on + ") straight on", m.glance(from, on), cracked == 1 ? 1 : NONE);
                }
            }
        }
        m.put(27, 3);
        for (int direction = 0; direction < 4; direction++) {
            due("a PILLAR is SEEN", m.glance(ahead[direction], 27), 1);
            due("a PILLAR ends it", m.glance(ahead[direction], 54 - ahead[direction]), NONE);
            due("ray into a PILLAR", m.ray(ahead[direction], direction, -1), 1);
            due("from a PILLAR's cell", m.glance(27, ahead[direction]), 1);
        }
    }

    private static void glances() {
        for (int kind = 2; kind <= 5; kind += 3) {
            for (int most = 1; most <= 6; most++) {
                begin("it ends there if that would be more than GLANCES (" + most + " of kind " + kind + ")");
                stairs(kind);
                m.terms(0, most);
                for (int i = 0; i < STAIRS.length; i++) {
                    due("glance(0, " + STAIRS[i] + ")", m.glance(0, STAIRS[i]), i < most ? i + 1 : NONE);
                    due("ray(0, 1, " + i + ")", m.ray(0, 1, i), i < most ? STAIRS[i] : NONE);
                }
                due("ray(0, 1, -1)", m.ray(0, 1, -1), most);
                due("straight on by the same GLANCE", m.glance(0, 7), kind == 5 ? 1 : NONE);
            }
        }
        begin("a CRACKED GLASS at the last GLANCE: straight on");
        stairs(5);
        m.terms(0, 6);
        due("glance(0, 59): down from 27", m.glance(0, 59), 6);
        due("glance(0, 31): right from 27", m.glance(0, 31), NONE);
        m.terms(0, 5);
        due("glance(0, 59)", m.glance(0, 59), NONE);
        due("glance(0, 23): right from 19", m.glance(0, 23), 5);
        begin("a ray that goes round ends by GLANCES");
        m.put(9, 1);
        m.put(14, 2);
        m.put(54, 1);
        m.put(49, 2);
        int[] cells = {4, 9, 14, 19, 24, 29};
        for (int most = 1; most <= 6; most++) {
            m.terms(0, most);
            due("ray(10, 1, -1) of " + most, m.ray(10, 1, -1), cells[most - 1]);
            due("glance(10, 10)", m.glance(10, 10), 0);
        }
        due("ray(10, 1, 19): come to itself", m.ray(10, 1, 19), 10);
    }

    private static void seen() {
        begin("by the fewest GLANCES of all four DIRECTIONS; from itself by 0");
        for (int cell = 0; cell < 64; cell++) {
            due("glance(" + cell + ", " + cell + ")", m.glance(cell, cell), 0);
        }
        m.put(3, 2);
        m.put(24, 2);
        due("glance(0, 27) by two ways", m.glance(0, 27), 2);
        m.put(24, 0);
        m.put(11, 2);
        m.put(12, 5);
        due("glance(8, 12)", m.glance(8, 12), NONE);
        due("glance(0, 12) by three", m.glance(0, 12), 3);
        due("glance(0, 13) by three", m.glance(0, 13), 3);
        m.terms(0, 4);
        due("glance(0, 20) by four", m.glance(0, 20), 4);
        m.heir(1, 0);
        m.thing(2, 1, 0);
        m.candle(2);
        due("heirs, things, candles hide nothing", m.glance(0, 3), 1);
        begin("where one looks from, the own GLASS or PILLAR does nothing");
        for (int kind = 0; kind <= 5; kind++) {
            m.put(27, kind);
            due("glance(27, 31)", m.glance(27, 31), 1);
            due("glance(27, 3)", m.glance(27, 3), 1);
            due("glance(27, 24)", m.glance(27, 24), 1);
            due("glance(27, 59)", m.glance(27, 59), 1);
        }
    }

    private static void fogged() {
        begin("it ends there if the GLASS is FOGGED; a CRACKED GLASS: straight on, FOGGED or not");
        m.terms(0, 6);
        m.put(3, 2);
        m.put(35, 5);
        due("glance(0, 39)", m.glance(0, 39), 3);
        inForce("fogs if y=4");
        due("glance(0, 35): it is SEEN", m.glance(0, 35), 2);
        due("glance(0, 43): straight on", m.glance(0, 43), 2);
        due("glance(0, 39): not turned", m.glance(0, 39), NONE);
        due("ray(0, 1, -1): as whole GLASS", m.ray(0, 1, -1), 7);
        due("views(0)", m.views(0), 0);
        inForce("fogs if glance=1");
        due("glance(0, 3)", m.glance(0, 3), 1);
        due("glance(0, 11)", m.glance(0, 11), NONE);
        due("ray(0, 1, -1)", m.ray(0, 1, -1), 3);
        inForce("fogs if glance=2");
        due("glance(0, 11)", m.glance(0, 11), 2);
        due("glance(0, 39)", m.glance(0, 39), NONE);
        due("glance(32, 39): by glance 1", m.glance(32, 39), 1);
        due("glance(32, 43): by glance 1", m.glance(32, 43), 2);
        inForce("fogs if glance>6 or glance<1");
        due("glance(0, 39)", m.glance(0, 39), 3);
        for (int glance = 1; glance <= 5; glance++) {
            begin("FOGGED by GLANCE " + glance + " alone");
            stairs(2);
            m.terms(0, 6);
            inForce("fogs if glance=" + glance);
            due("glance(0, " + STAIRS[glance - 1] + ")", m.glance(0, STAIRS[glance - 1]), glance);
            due("glance(0, " + STAIRS[glance] + ")", m.glance(0, STAIRS[glance]), NONE);
            due("ray(0, 1, -1)", m.ray(0, 1, -1), glance);
            m.force(NONE);
            due("glance(0, 27) without fog", m.glance(0, 27), 6);
        }
    }

    private static void fogOnTheRim() {
        begin("a FOGGED GLASS in a corner");
        int[] corners = {0, 7, 56, 63};
        int[] kinds = {1, 2, 2, 1};
        int[] from = {1, 6, 57, 62};
        int[] to = {8, 15, 48, 55};
        for (int i = 0; i < 4; i++) {
            m.put(corners[i], kinds[i]);
        }
        law("fogs");
        law("fogs if glance=1");
        for (int i = 0; i < 4; i++) {
            m.force(NONE);
            due("glance(" + from[i] + ", " + to[i] + ")", m.glance(from[i], to[i]), 2);
            m.force(0);
            due("glance(" + from[i] + ", " + to[i] + ") by fog", m.glance(from[i], to[i]), NONE);
            m.force(1);
            due("glance(" + from[i] + ", " + to[i] + ") by fog of the first glance", m.glance(from[i], to[i]), NONE);
        }
    }

    /** By how many glances each cell is seen, step by step by the document's words; no fog. */
    private static int[] seenFrom(int[] kinds, int from, int most) {
        int[] seen = new int[64];
        Arrays.fill(seen, NONE);
        seen[from] = 0;
        boolean[] been = new boolean[64 * 4 * 8];
        for (int glance = 1; glance <= most; glance++) {
            Deque<int[]> open = new ArrayDeque<>();
            for (int at = 0; at < 256; at++) {
                if (glance == 1 ? at / 4 == from : been[(glance * 256) + at]) {
                    open.add(new int[] {at / 4, at % 4});
                }
            }
            while (!open.isEmpty()) {
                int[] now = open.remove();
                int x = now[0] % 8 + (now[1] == 1 ? 1 : now[1] == 3 ? -1 : 0);
                int y = now[0] / 8 + (now[1] == 2 ? 1 : now[1] == 0 ? -1 : 0);
                if (x < 0 || x > 7 || y < 0 || y > 7) {
                    continue;
                }
                int cell = 8 * y + x;
                int kind = kinds[cell];
                seen[cell] = seen[cell] == NONE ? glance : seen[cell];
                if (kind == 1 || kind == 2 || kind > 3) {
                    int turned = kind == 1 || kind == 4 ? new int[] {1, 0, 3, 2}[now[1]] : new int[] {3, 2, 1, 0}[now[1]];
                    been[((glance + 1) * 256) + 4 * cell + turned] = true;
                }
                if (kind == 0 || kind > 3) {
                    open.add(new int[] {cell, now[1]});
                }
            }
        }
        return seen;
    }

    private static void compare(String what, int[] kinds, int most, boolean byGlances) {
        begin(what + ", GLANCES " + most);
        for (int cell = 0; cell < 64; cell++) {
            m.put(cell, kinds[cell]);
        }
        m.terms(0, most);
        if (byGlances) {
            inForce("fogs if glance=7");
        }
        for (int from : new int[] {0, 27, 60}) {
            int[] seen = seenFrom(kinds, from, most);
            for (int cell = 0; cell < 64; cell++) {
                due("glance(" + from + ", " + cell + ")", m.glance(from, cell), seen[cell]);
            }
        }
    }

    private static void fullOfGlass() {
        for (int most = 1; most <= 6; most++) {
            for (int kind = 1; kind <= 5; kind++) {
                int[] kinds = new int[64];
                int[] mixed = new int[64];
                int[] sparse = new int[64];
                for (int cell = 0; cell < 64; cell++) {
                    kinds[cell] = kind;
                    mixed[cell] = (cell + cell / 8) % 2 == 0 ? kind : 9 - Math.max(4, kind);
                    sparse[cell] = cell * 37 % 64 < 20 ? 1 + (cell * kind + 3) % 5 : 0;
                }
                compare("a hall full of kind " + kind, kinds, most, kind % 2 == 0);
                compare("a hall full of " + kind + " and another", mixed, most, kind % 2 == 1);
                compare("some kinds by " + kind, sparse, most, kind > 2);
            }
        }
        for (int law = 0; law < 2; law++) {
            begin("the last of very many ways, and the only one to 27");
            int[] kinds = new int[64];
            for (int cell = 1; cell < 64; cell++) {
                kinds[cell] = 4 + (cell + cell / 8) % 2;
            }
            for (int i = 0; i < 5; i++) {
                kinds[STAIRS[i]] = 2;
            }
            for (int pillar : new int[] {26, 27, 28, 35}) {
                kinds[pillar] = 3;
            }
            for (int cell = 0; cell < 64; cell++) {
                m.put(cell, kinds[cell]);
            }
            m.terms(0, 6);
            if (law == 1) {
                inForce("fogs if glance=7");
            }
            due("27 from 0 by the document's words", seenFrom(kinds, 0, 6)[27], 6);
            due("glance(0, 27)", m.glance(0, 27), 6);
        }
    }

    private static void pairs() {
        begin("TWO HEIRS who each see the CELL of the other one are a PAIR; whoever is in one has nothing");
        m.heir(0, 1);
        m.heir(7, 1);
        m.heir(57, 1);
        m.thing(1, 10, 0);
        due("pair(0, 1)", m.pair(0, 1), 1);
        due("pair(1, 0)", m.pair(1, 0), 1);
        due("pair(0, 2)", m.pair(0, 2), 0);
        due("estate(0)", m.estate(0), 0);
        due("estate(1)", m.estate(1), 0);
        due("estate(2)", m.estate(2), 10000);
        due("owner(0, 0)", m.owner(0, 0), 2);
        due("owner(0, 1)", m.owner(0, 1), 1);
        due("claim(0, 0, 0)", m.claim(0, 0, 0), 0);
        due("claim(0, 0, 1)", m.claim(0, 0, 1), 0);
        due("claim(0, 0, 2)", m.claim(0, 0, 2), 1);
        m.put(4, 3);
        due("pair(0, 1) with a pillar between", m.pair(0, 1), 0);
        due("estate(0)", m.estate(0), 5000);
        for (int heir : new int[] {-1, 3, Integer.MIN_VALUE, Integer.MAX_VALUE}) {
            due("pair(0, " + heir + ")", m.pair(0, heir), NONE);
            due("pair(" + heir + ", 0)", m.pair(heir, 0), NONE);
            due("pair(" + heir + ", " + heir + ")", m.pair(heir, heir), NONE);
            due("estate(" + heir + ")", m.estate(heir), NONE);
            due("claim(" + heir + ", 0, 0)", m.claim(heir, 0, 0), NONE);
        }
        for (int heir = 0; heir < 3; heir++) {
            due("pair(" + heir + ", " + heir + ")", m.pair(heir, heir), NONE);
        }
        begin("six HEIRS on one CELL");
        for (int heir = 0; heir < 6; heir++) {
            m.heir(9, heir);
        }
        m.thing(9, 5, 0);
        due("pair(0, 5)", m.pair(0, 5), 1);
        due("owner(0, 1)", m.owner(0, 1), 0);
        m.move(0, 0);
        m.move(5, 63);
        due("pair(0, 5)", m.pair(0, 5), 0);
        due("estate(1)", m.estate(1), 0);
        begin("a PAIR by the last GLANCE, one way only by fog");
        stairs(2);
        m.terms(0, 6);
        m.put(27, 0);
        m.heir(0, 0);
        m.heir(59, 0);
        m.thing(0, 8, 0);
        due("pair(0, 1) by six", m.pair(0, 1), 1);
        m.terms(0, 5);
        due("pair(0, 1) by five", m.pair(0, 1), 0);
        m.terms(0, 6);
        inForce("fogs if x=3 and glance=1");
        due("glance(0, 59)", m.glance(0, 59), 6);
        due("glance(59, 0)", m.glance(59, 0), NONE);
        due("pair(0, 1)", m.pair(0, 1), 0);
        due("pair(1, 0)", m.pair(1, 0), 0);
        due("estate(0)", m.estate(0), 8000);
        m.thing(51, 4, 0);
        due("estate(1): both have their share", m.estate(1), 2000);
        due("estate(0): both have their share", m.estate(0), 10000);
        begin("one way only, of six HEIRS");
        stairs(2);
        m.put(27, 0);
        m.put(62, 1);
        m.pivot(62, 0, 0);
        m.terms(0, 6);
        m.heir(59, 0);
        for (int heir = 1; heir < 5; heir++) {
            m.heir(15, 0);
        }
        m.heir(0, 0);
        m.thing(51, 8, 0);
        due("estate(0) of a PAIR", m.estate(0), 0);
        inForce("fogs if x=3 and glance=1");
        due("pair(0, 5)", m.pair(0, 5), 0);
        due("pair(1, 4)", m.pair(1, 4), 1);
        due("estate(0)", m.estate(0), 4000);
        due("estate(4)", m.estate(4), 0);
        due("estate(5)", m.estate(5), 4000);
    }

    /** Four heirs who all see cell 27 and not one another. */
    private static void four() {
        int[] cells = {25, 29, 11, 43};
        for (int i = 0; i < 4; i++) {
            m.heir(cells[i], i);
        }
        m.put(27, 3);
    }

    private static void shares() {
        begin("A SHARE in lowest terms");
        four();
        m.thing(27, 99, 0);
        due("claim(0, 0, 0) without a law", m.claim(0, 0, 0), 1);
        due("claim(0, 0, 1) without a law", m.claim(0, 0, 1), 1);
        due("claim(0, 0, 2) without a law", m.claim(0, 0, 2), 4);
        inForce("claims 999");
        for (int heir = 0; heir < 4; heir++) {
            due("claim(" + heir + ", 0, 0)", m.claim(heir, 0, 0), 999);
            due("claim(" + heir + ", 0, 1)", m.claim(heir, 0, 1), 1);
            due("claim(" + heir + ", 0, 2)", m.claim(heir, 0, 2), 4);
            due("estate(" + heir + ")", m.estate(heir), 24750);
        }
        due("owner(0, 0)", m.owner(0, 0), NONE);
        due("owner(0, 1)", m.owner(0, 1), 4);
        inForce("claims 999;claims 998 if heir=1;bars if heir>1");
        due("claim(0, 0, 1)", m.claim(0, 0, 1), 999);
        due("claim(0, 0, 2)", m.claim(0, 0, 2), 1997);
        due("claim(1, 0, 1)", m.claim(1, 0, 1), 998);
        due("claim(1, 0, 2)", m.claim(1, 0, 2), 1997);
        due("claim(2, 0, 1)", m.claim(2, 0, 1), 0);
        due("claim(2, 0, 2)", m.claim(2, 0, 2), 1);
        due("estate(0)", m.estate(0), 99 * 999 * 1000 / 1997);
        due("estate(1)", m.estate(1), 99 * 998 * 1000 / 1997);
        due("owner(0, 1)", m.owner(0, 1), 2);
        inForce("claims heir*6");
        due("claim(0, 0, 0)", m.claim(0, 0, 0), 0);
        due("claim(0, 0, 2)", m.claim(0, 0, 2), 1);
        due("claim(1, 0, 1)", m.claim(1, 0, 1), 1);
        due("claim(1, 0, 2)", m.claim(1, 0, 2), 6);
        due("claim(2, 0, 1)", m.claim(2, 0, 1), 1);
        due("claim(2, 0, 2)", m.claim(2, 0, 2), 3);
        due("claim(3, 0, 1)", m.claim(3, 0, 1), 1);
        due("claim(3, 0, 2)", m.claim(3, 0, 2), 2);
        due("owner(0, 1)", m.owner(0, 1), 3);
        inForce("claims 0;claims 5 if heir=3");
        due("owner(0, 0)", m.owner(0, 0), 3);
        due("owner(0, -1) of what is OWNED", m.owner(0, -1), NONE);
        due("owner(0, 2) of what is OWNED", m.owner(0, 2), NONE);
        due("claim(3, 0, 1)", m.claim(3, 0, 1), 1);
        due("claim(3, 0, 2)", m.claim(3, 0, 2), 1);
        inForce("claims 0");
        due("owner(0, 0): all CLAIM 0", m.owner(0, 0), NONE);
        due("owner(0, 1)", m.owner(0, 1), 0);
        due("estate(3)", m.estate(3), 0);
        due("claim(3, 0, 2)", m.claim(3, 0, 2), 1);
        for (int what : new int[] {-1, 3, Integer.MIN_VALUE, Integer.MAX_VALUE}) {
            due("claim(0, 0, " + what + ")", m.claim(0, 0, what), NONE);
        }
        for (int thing : new int[] {-1, 1, Integer.MIN_VALUE, Integer.MAX_VALUE}) {
            due("claim(0, " + thing + ", 0)", m.claim(0, thing, 0), NONE);
            due("owner(" + thing + ", 0)", m.owner(thing, 0), NONE);
            due("owner(" + thing + ", 1)", m.owner(thing, 1), NONE);
        }
        for (int what : new int[] {-1, 2, Integer.MIN_VALUE, Integer.MAX_VALUE}) {
            due("owner(0, " + what + ")", m.owner(0, what), NONE);
        }
    }

    private static void estates() {
        begin("An ESTATE: thousandths of WORTH by SHARES, cut for each THING");
        four();
        inForce("bars if heir=3");
        for (int thing = 0; thing < 12; thing++) {
            m.thing(27, 1, 0);
        }
        due("estate(0): 12 times 333", m.estate(0), 3996);
        due("estate(3)", m.estate(3), 0);
        again();
        m.heir(0, 0);
        for (int thing = 0; thing < 12; thing++) {
            m.thing(thing / 2, 99, 0);
        }
        due("estate(0): all that can be", m.estate(0), 12 * 99 * 1000);
        for (int candle = 0; candle < 4; candle++) {
            m.candle(5 + candle);
        }
        due("lit(-1): all that can be", m.lit(-1), 12 * 99);
    }

    private static void lit() {
        begin("LIT is what is SEEN from a CANDLE; by how many GLANCES");
        stairs(2);
        m.terms(0, 6);
        m.candle(0);
        for (int i = 0; i < 6; i++) {
            due("lit(" + STAIRS[i] + ")", m.lit(STAIRS[i]), i + 1);
        }
        due("lit(28)", m.lit(28), NONE);
        m.candle(63);
        m.candle(59);
        due("lit(27) by the nearest of three", m.lit(27), 1);
        due("lit(0)", m.lit(0), 0);
        m.thing(27, 10, 0);
        m.thing(28, 20, 0);
        m.thing(63, 40, 0);
        due("lit(-1)", m.lit(-1), 50);
        due("lit(-2)", m.lit(-2), NONE);
        due("lit(64)", m.lit(64), NONE);
    }

    private static void stand() {
        begin("To STAND: n 1 .. 4 unlike CELLS with nothing on them");
        for (int n : new int[] {-1, 0, 5, Integer.MIN_VALUE, Integer.MAX_VALUE}) {
            due("stand(" + n + ", 0)", m.stand(n, 0), NONE);
            due("stand(" + n + ", 1)", m.stand(n, 1), NONE);
        }
        for (int n = 1; n <= 4; n++) {
            for (int what : new int[] {-1, n + 1, Integer.MIN_VALUE, Integer.MAX_VALUE}) {
                due("stand(" + n + ", " + what + ")", m.stand(n, what), NONE);
            }
            for (int i = 0; i < n; i++) {
                due("stand(" + n + ", " + (1 + i) + ")", m.stand(n, 1 + i), i);
            }
        }
        for (int cell = 0; cell < 64; cell++) {
            m.put(cell, 3);
        }
        m.put(2, 0);
        m.put(40, 0);
        m.put(63, 0);
        int[] sets = {3, 3, 1, 0};
        for (int n = 1; n <= 4; n++) {
            due("stand(" + n + ", 0) of three cells", m.stand(n, 0), sets[n - 1]);
        }
        due("stand(3, 1)", m.stand(3, 1), 2);
        due("stand(3, 2)", m.stand(3, 2), 40);
        due("stand(3, 3)", m.stand(3, 3), 63);
        due("stand(4, 1)", m.stand(4, 1), NONE);
        due("stand(4, 4)", m.stand(4, 4), NONE);
        m.thing(63, 1, 0);
        due("stand(1, 0)", m.stand(1, 0), 1);
        due("stand(1, 1)", m.stand(1, 1), 63);
        due("stand(2, 0)", m.stand(2, 0), 2);
        due("stand(2, 1)", m.stand(2, 1), 2);
        due("stand(2, 2)", m.stand(2, 2), 63);
        m.put(62, 0);
        due("stand(2, 0): not from two", m.stand(2, 0), 4);
        due("stand(2, 2)", m.stand(2, 2), 62);
        due("stand(4, 0)", m.stand(4, 0), 0);
        due("stand(3, 0)", m.stand(3, 0), 2);
        m.heir(2, 0);
        m.candle(40);
        m.thing(2, 1, 0);
        due("stand(2, 0): who is where is aside", m.stand(2, 0), 2);
        due("stand(2, 1)", m.stand(2, 1), 2);
        due("stand(3, 0)", m.stand(3, 0), 2);
        inForce("bars;claims 0");
        due("stand(2, 0): laws are aside", m.stand(2, 0), 2);
    }

    private static void fogAndStand() {
        begin("To STAND: laws but \"fogs\" aside");
        for (int cell = 0; cell < 64; cell++) {
            m.put(cell, 3);
        }
        m.put(0, 0);
        m.put(1, 2);
        m.thing(9, 1, 0);
        due("stand(1, 0)", m.stand(1, 0), 1);
        due("stand(1, 1)", m.stand(1, 1), 0);
        inForce("fogs if hour=23");
        due("stand(1, 0)", m.stand(1, 0), 1);
        m.terms(1, 23);
        due("stand(1, 0) by fog", m.stand(1, 0), 0);
        due("stand(1, 1) by fog", m.stand(1, 1), NONE);
        begin("the first set: by rising cells");
        m.thing(0, 1, 0);
        m.thing(7, 1, 0);
        m.thing(56, 1, 0);
        m.thing(63, 1, 0);
        // of the rim without corners one cell of the first row and one of the last, or of the first and last column
        due("stand(1, 0)", m.stand(1, 0), 0);
        due("stand(1, 1)", m.stand(1, 1), NONE);
        due("stand(2, 0)", m.stand(2, 0), 72);
        due("stand(2, 1)", m.stand(2, 1), 1);
        due("stand(2, 2)", m.stand(2, 2), 57);
        due("stand(3, 0)", m.stand(3, 0), 72 * 36);
        due("stand(4, 0)", m.stand(4, 0), 72 * 630);
        int[] first = {1, 9, 10, 57};
        for (int i = 0; i < 4; i++) {
            due("stand(4, " + (1 + i) + ")", m.stand(4, 1 + i), first[i]);
        }
    }

    private static void firstToStand() {
        begin("the first set, found behind another one");
        for (int cell = 0; cell < 64; cell++) {
            m.put(cell, 3);
        }
        // 12 sees thing 0, 44 thing 1, 28 both, 0 and 63 none
        for (int cell : new int[] {0, 12, 28, 44, 63}) {
            m.put(cell, 0);
        }
        m.thing(20, 1, 0);
        m.thing(36, 1, 0);
        int[][] first = {{28}, {0, 28}, {0, 12, 44}, {0, 12, 44, 63}};
        int[] sets = {1, 3, 3, 1};
        for (int n = 1; n <= 4; n++) {
            due("stand(" + n + ", 0)", m.stand(n, 0), sets[n - 1]);
            for (int i = 0; i < n; i++) {
                due("stand(" + n + ", " + (1 + i) + ")", m.stand(n, 1 + i), first[n - 1][i]);
            }
        }
    }

    private static void tellings() {
        begin("TELLINGS, 10 at most: by so many GLANCES (0 .. 6; NONE: not)");
        for (int glances = -1; glances <= 6; glances++) {
            due("telling(0, 63, " + glances + ")", m.telling(0, 63, glances), glances + 2);
            due("turned(0)", m.turned(0), glances == -1 ? 1 : 0);
        }
        due("the ninth", m.telling(63, 0, 0), 9);
        due("the tenth", m.telling(0, 0, 0), 10);
        due("the eleventh", m.telling(0, 0, 0), -5);
        due("count(5)", m.count(5), 10);
        due("forget()", m.forget(), 10);
        due("turned(0): none", m.turned(0), 1);
        begin("all ten are so");
        m.put(3, 1);
        m.pivot(3, 0, 0);
        for (int i = 0; i < 9; i++) {
            m.telling(0, 0, 0);
        }
        due("turned(0)", m.turned(0), 2);
        m.telling(0, 11, 2);
        due("turned(0)", m.turned(0), 1);
        due("turned(1)", m.turned(1), 1);
        due("turned(2)", m.turned(2), 1);
        for (int what : new int[] {-1, 3, Integer.MIN_VALUE, Integer.MAX_VALUE}) {
            due("turned(" + what + ")", m.turned(what), NONE);
        }
    }

    /** Five pivots (of heir 0) by which 27 is seen from 0, and three (of heir 1) by which 45 is from 63, all turned away. */
    private static void eightTurnedAway(int price) {
        int[] cells = {62, 54, 53, 1, 9, 10, 18, 19};
        for (int i = 0; i < 8; i++) {
            m.put(cells[i], 1);
            due("pivot " + i, m.pivot(cells[i], i < 3 ? 1 : 0, price), i);
        }
        m.terms(0, 6);
    }

    private static void turned() {
        begin("TURNED: of 8 PIVOTS");
        eightTurnedAway(0);
        due("turned(0)", m.turned(0), 256);
        due("turned(1)", m.turned(1), 0);
        due("turned(2)", m.turned(2), 0);
        m.telling(0, 27, 6);
        due("turned(0)", m.turned(0), 8);
        due("turned(1)", m.turned(1), 5);
        due("turned(2)", m.turned(2), 248);
        m.telling(63, 45, 4);
        due("turned(0)", m.turned(0), 1);
        due("turned(1)", m.turned(1), 8);
        due("turned(2)", m.turned(2), 255);
        m.terms(0, 5);
        due("turned(0): more than GLANCES", m.turned(0), 0);
        due("turned(1)", m.turned(1), NONE);
        due("turned(2)", m.turned(2), NONE);
        m.terms(0, 6);
        for (int i = 0; i < 8; i++) {
            m.turn(i);
        }
        due("turned(2): all are turned now", m.turned(2), 0);
        m.turn(7);
        due("turned(2)", m.turned(2), 128);
        m.put(62, 2);
        due("turned(2): one is no PIVOT any more", m.turned(2), 64);
    }

    private static void reveal() {
        begin("To REVEAL: the cheapest set, the lowest as bits");
        eightTurnedAway(99);
        m.heir(0, 0);
        m.heir(63, 0);
        m.thing(27, 1, 0);
        m.thing(45, 1, 0);
        m.thing(0, 1, 0);
        due("reveal(0, 0, 6, 0)", m.reveal(0, 0, 6, 0), 495);
        due("reveal(0, 0, 6, 1)", m.reveal(0, 0, 6, 1), 248);
        due("reveal(0, 0, 5, 0)", m.reveal(0, 0, 5, 0), NONE);
        due("reveal(0, 0, 5, 1)", m.reveal(0, 0, 5, 1), NONE);
        due("reveal(1, 1, 4, 0)", m.reveal(1, 1, 4, 0), 297);
        due("reveal(1, 1, 4, 1)", m.reveal(1, 1, 4, 1), 7);
        due("reveal(1, 1, 3, 1)", m.reveal(1, 1, 3, 1), NONE);
        due("reveal(0, 2, 0, 0): from itself by 0", m.reveal(0, 2, 0, 0), 0);
        due("reveal(0, 2, 0, 1)", m.reveal(0, 2, 0, 1), 0);
        due("reveal(0, 2, -1, 0)", m.reveal(0, 2, -1, 0), NONE);
        due("reveal(0, 2, MIN, 0)", m.reveal(0, 2, Integer.MIN_VALUE, 0), NONE);
        m.terms(0, 5);
        due("reveal(0, 0, 6, 0) of five GLANCES", m.reveal(0, 0, 6, 0), NONE);
        for (int n : new int[] {-1, 2, Integer.MIN_VALUE, Integer.MAX_VALUE}) {
            due("reveal(" + n + ", 2, 6, 0)", m.reveal(n, 2, 6, 0), NONE);
            due("reveal(0, 2, 6, " + n + ")", m.reveal(0, 2, 6, n), NONE);
        }
        for (int n : new int[] {-1, 3, Integer.MIN_VALUE, Integer.MAX_VALUE}) {
            due("reveal(0, " + n + ", 6, 0)", m.reveal(0, n, 6, 0), NONE);
        }
        begin("REVEAL: PRICE 0, alike ones");
        eightTurnedAway(0);
        m.heir(0, 0);
        m.thing(27, 1, 0);
        due("reveal(0, 0, 6, 0)", m.reveal(0, 0, 6, 0), 0);
        due("reveal(0, 0, 6, 1)", m.reveal(0, 0, 6, 1), 248);
        begin("REVEAL, TURNED: behind PIVOTS that went");
        m.put(3, 1);
        m.pivot(3, 0, 7);
        m.heir(0, 0);
        m.thing(11, 1, 0);
        m.telling(0, 11, 2);
        due("reveal(0, 0, 2, 0)", m.reveal(0, 0, 2, 0), 7);
        due("turned(0)", m.turned(0), 1);
        m.put(3, 1);
        due("reveal(0, 0, 2, 0)", m.reveal(0, 0, 2, 0), NONE);
        due("reveal(0, 0, 2, 1)", m.reveal(0, 0, 2, 1), NONE);
        due("turned(0)", m.turned(0), 0);
        int[] prices = {9, 8};
        for (int price : prices) {
            begin("REVEAL: one PIVOT for " + price + ", or two for 4 each");
            m.put(3, 1);
            m.put(40, 1);
            m.put(43, 2);
            m.pivot(3, 0, price);
            m.pivot(40, 0, 4);
            m.pivot(43, 0, 4);
            m.heir(0, 0);
            m.thing(27, 1, 0);
            due("reveal(0, 0, 3, 0)", m.reveal(0, 0, 3, 0), 8);
            due("reveal(0, 0, 3, 1)", m.reveal(0, 0, 3, 1), price == 9 ? 6 : 1);
            due("reveal(0, 0, 2, 0)", m.reveal(0, 0, 2, 0), price);
            due("reveal(0, 0, 2, 1)", m.reveal(0, 0, 2, 1), 1);
            due("reveal(0, 0, 1, 1)", m.reveal(0, 0, 1, 1), NONE);
        }
    }

    private static void hints() {
        begin("HINTS, 6 at most: by so many GLANCES (0 .. 6; NONE: not)");
        m.terms(0, 6);
        for (int i = 0; i < 5; i++) {
            m.put(STAIRS[i], 2);
        }
        m.heir(0, 0);
        int[] seen = {1, 7, 0, 0, 0, 0, 5};
        int[] first = {0, 8, NONE, NONE, NONE, NONE, 27};
        // by glances 2 .. 5 only glasses are seen
        for (int glances = 0; glances <= 6; glances++) {
            due("hint(0, " + glances + ")", m.hint(0, glances), 1);
            due("stranger(-1) by " + glances, m.stranger(-1), seen[glances]);
            due("stranger(0) by " + glances, m.stranger(0), first[glances]);
            due("stranger beyond", m.stranger(seen[glances]), NONE);
            m.forget();
        }
        m.hint(0, NONE);
        due("stranger(-1): not seen", m.stranger(-1), 64 - 5 - 13);
        m.hint(0, 6);
        due("stranger(-1): both can't be", m.stranger(-1), 0);
        due("stranger(0)", m.stranger(0), NONE);
        m.forget();
        m.hint(0, 6);
        due("stranger(4)", m.stranger(4), 59);
        due("stranger(-2)", m.stranger(-2), NONE);
        due("stranger(MIN)", m.stranger(Integer.MIN_VALUE), NONE);
        due("stranger(MAX)", m.stranger(Integer.MAX_VALUE), NONE);
        m.terms(0, 5);
        due("stranger(-1) of five GLANCES", m.stranger(-1), 0);
        m.terms(0, 6);
        m.move(0, 63);
        due("stranger(-1) behind a move", m.stranger(-1), 0);
        m.undo();
        m.heir(59, 0);
        m.candle(35);
        m.thing(43, 1, 0);
        due("stranger(-1): heirs, candles, things are no KIND", m.stranger(-1), 5);
        m.hint(1, 1);
        due("stranger(-1) of two hints", m.stranger(-1), 4);
        for (int i = 3; i <= 6; i++) {
            due("hint " + i, m.hint(0, 6), i);
        }
        due("the seventh", m.hint(0, 6), -5);
        m.telling(0, 0, 0);
        due("forget(): both", m.forget(), 7);
        due("count(5)", m.count(5), 0);
        due("count(6)", m.count(6), 0);
        due("stranger(-1): without hints", m.stranger(-1), 59);
        due("hint(0, 0)", m.hint(0, 0), 1);
    }

    private static void hide() {
        begin("To HIDE it: nothing on it now, no HEIR or THING there");
        m.heir(0, 0);
        m.heir(2, 0);
        m.thing(7, 1, 0);
        m.thing(3, 1, 0);
        m.candle(4);
        m.thing(0, 1, 0);
        m.thing(9, 1, 0);
        m.thing(1, 1, 0);
        due("hide(0, 0, -1)", m.hide(0, 0, -1), 3);
        due("hide(0, 0, 0): a candle is there", m.hide(0, 0, 0), 4);
        due("hide(0, 0, 2)", m.hide(0, 0, 2), 6);
        due("hide(0, 0, 3)", m.hide(0, 0, 3), NONE);
        due("hide(0, 0, -2)", m.hide(0, 0, -2), NONE);
        due("hide(0, 2, -1): on the own CELL", m.hide(0, 2, -1), 0);
        due("hide(0, 2, 0)", m.hide(0, 2, 0), NONE);
        due("hide(0, 3, -1): not seen", m.hide(0, 3, -1), NONE);
        due("hide(0, 4, -1): nothing between", m.hide(0, 4, -1), 0);
        for (int n : new int[] {-1, 2, Integer.MIN_VALUE, Integer.MAX_VALUE}) {
            due("hide(" + n + ", 0, -1)", m.hide(n, 0, -1), NONE);
        }
        for (int n : new int[] {-1, 5, Integer.MIN_VALUE, Integer.MAX_VALUE}) {
            due("hide(0, " + n + ", -1)", m.hide(0, n, -1), NONE);
        }
        due("hide(0, 0, MIN)", m.hide(0, 0, Integer.MIN_VALUE), NONE);
        due("hide(0, 0, MAX)", m.hide(0, 0, Integer.MAX_VALUE), NONE);
        due("at(4, 0): on paper", m.at(4, 0), 0);
        begin("To HIDE what is seen by the last GLANCE");
        stairs(2);
        m.put(27, 0);
        m.terms(0, 6);
        m.heir(0, 0);
        m.thing(59, 1, 0);
        due("hide(0, 0, -1)", m.hide(0, 0, -1), 4);
        due("hide(0, 0, 0)", m.hide(0, 0, 0), 27);
        due("hide(0, 0, 3)", m.hide(0, 0, 3), 51);
        m.put(56, 2);
        due("hide(0, 0, -1): by another way still seen", m.hide(0, 0, -1), 0);
    }

    private static void hides() {
        begin("A PILLAR HIDES pairs that would be seen without it, and are not");
        for (int heir = 0; heir < 6; heir++) {
            m.heir(0, heir);
        }
        for (int thing = 0; thing < 12; thing++) {
            m.thing(2, 1, 0);
        }
        m.put(1, 3);
        due("hides(1): all that can be", m.hides(1), 72);
        due("hides(0): no PILLAR", m.hides(0), NONE);
        m.put(8, 3);
        due("hides(8): none", m.hides(8), 0);
        due("hides(1)", m.hides(1), 72);
        for (int kind : new int[] {0, 1, 2, 4, 5}) {
            m.put(1, kind);
            due("hides(1) of kind " + kind, m.hides(1), NONE);
        }
        begin("a THING on the PILLAR is seen");
        m.heir(0, 0);
        m.thing(1, 1, 0);
        m.put(1, 3);
        due("hides(1)", m.hides(1), 0);
        m.thing(2, 1, 0);
        due("hides(1)", m.hides(1), 1);
        m.put(2, 3);
        due("hides(1): it is seen on the next one", m.hides(1), 1);
        due("hides(2)", m.hides(2), 0);
        m.put(16, 2);
        m.put(18, 1);
        due("hides(1): seen by another way", m.hides(1), 0);
        due("at(1, 0): on paper", m.at(1, 0), 3);
    }

    private static void twoCorners(int ownerOfFirst, int ownerOfSecond) {
        again();
        m.put(3, 1);
        m.put(60, 1);
        m.pivot(3, ownerOfFirst, 99);
        m.pivot(60, ownerOfSecond, 0);
        m.heir(0, 0);
        m.heir(63, 0);
        m.thing(11, 10, 0);
        m.thing(52, 1, 0);
    }

    private static void peaceAndQuarrel(int[] peace, int[] quarrel) {
        for (int what = 0; what < 3; what++) {
            due("peace(" + what + ")", m.peace(what), peace[what]);
            due("quarrel(" + what + ")", m.quarrel(what), quarrel[what]);
        }
        for (int what : new int[] {-1, 3, Integer.MIN_VALUE, Integer.MAX_VALUE}) {
            due("peace(" + what + ")", m.peace(what), NONE);
            due("quarrel(" + what + ")", m.quarrel(what), NONE);
        }
    }

    private static void peace() {
        begin("PEACE: by turning one PIVOT of which he is the OWNER; a QUARREL: 0 first");
        twoCorners(0, 1);
        peaceAndQuarrel(new int[] {2, 3, 1}, new int[] {2, 3, NONE});
        m.turn(0);
        peaceAndQuarrel(new int[] {1, 2, 1}, new int[] {1, 2, NONE});
        m.turn(1);
        peaceAndQuarrel(new int[] {0, 0, 1}, new int[] {0, 0, NONE});
        twoCorners(1, 0);
        peaceAndQuarrel(new int[] {0, 0, 4}, new int[] {0, 0, NONE});
        twoCorners(NONE, NONE);
        peaceAndQuarrel(new int[] {0, 0, 4}, new int[] {0, 0, NONE});
        twoCorners(2, 5);
        peaceAndQuarrel(new int[] {0, 0, 4}, new int[] {0, 0, NONE});
        m.heir(33, 0);
        peaceAndQuarrel(new int[] {0, 0, 4}, new int[] {0, 0, NONE});
        twoCorners(0, 0);
        peaceAndQuarrel(new int[] {1, 1, 2}, new int[] {1, 1, NONE});
        begin("without HEIRS at once");
        eightTurnedAway(1);
        peaceAndQuarrel(new int[] {0, 0, 256}, new int[] {0, 0, NONE});
        begin("PEACE: without THINGS");
        eightTurnedAway(1);
        m.heir(0, 0);
        m.heir(63, 0);
        peaceAndQuarrel(new int[] {0, 0, 256}, new int[] {0, 0, NONE});
    }

    private static void eightThatMatter() {
        begin("PEACE of 8 PIVOTS, each of which matters");
        eightTurnedAway(0);
        m.heir(0, 0);
        m.heir(63, 0);
        // each turn shows the next step of the own stairs
        for (int cell : new int[] {9, 10, 18, 19, 27, 54, 53, 45}) {
            m.thing(cell, 1, 0);
        }
        peaceAndQuarrel(new int[] {8, 255, 1}, new int[] {8, 255, NONE});
        m.turn(3);
        peaceAndQuarrel(new int[] {7, 247, 1}, new int[] {7, 247, NONE});
        m.turn(7);
        peaceAndQuarrel(new int[] {6, 119, 1}, new int[] {6, 119, NONE});
        begin("PEACE by what is LIT");
        m.put(29, 1);
        m.pivot(29, 0, 0);
        m.heir(0, 1);
        m.thing(5, 10, 0);
        m.candle(24);
        inForce("bars if lit=0");
        peaceAndQuarrel(new int[] {0, 0, 1}, new int[] {0, 0, NONE});
        m.turn(0);
        peaceAndQuarrel(new int[] {1, 1, 1}, new int[] {1, 1, NONE});
        begin("PEACE: the OWNER comes later");
        m.put(3, 1);
        m.pivot(3, 1, 0);
        m.thing(11, 10, 0);
        m.heir(63, 0);
        peaceAndQuarrel(new int[] {0, 0, 2}, new int[] {0, 0, NONE});
        m.heir(0, 0);
        peaceAndQuarrel(new int[] {1, 1, 1}, new int[] {1, 1, NONE});
        begin("PEACE: a PIVOT without OWNER, six HEIRS");
        m.put(3, 1);
        m.pivot(3, NONE, 0);
        m.thing(11, 10, 0);
        for (int heir = 0; heir < 5; heir++) {
            m.heir(63, 0);
        }
        m.heir(0, 0);
        peaceAndQuarrel(new int[] {0, 0, 2}, new int[] {0, 0, NONE});
    }

    /** One heir, whose pivots at 3 and 24 show 11 and 25, or 27 by either. */
    private static void crossing(int first, int second, int both) {
        again();
        m.put(3, 1);
        m.put(24, 1);
        m.pivot(24, 0, 0);
        m.pivot(3, 0, 0);
        m.heir(0, 0);
        if (first > 0) {
            m.thing(25, first, 0);
        }
        if (second > 0) {
            m.thing(11, second, 0);
        }
        if (both > 0) {
            m.thing(27, both, 0);
        }
    }

    private static void greatest() {
        begin("turns the own PIVOT by which the own ESTATE gets greatest (the lowest of alike ones)");
        crossing(0, 0, 9);
        peaceAndQuarrel(new int[] {1, 1, 3}, new int[] {1, 1, NONE});
        crossing(5, 5, 9);
        peaceAndQuarrel(new int[] {2, 3, 1}, new int[] {2, 3, NONE});
        crossing(0, 5, 9);
        peaceAndQuarrel(new int[] {1, 2, 2}, new int[] {1, 2, NONE});
        crossing(5, 0, 9);
        peaceAndQuarrel(new int[] {1, 1, 2}, new int[] {1, 1, NONE});
        begin("the greatest of three, neither the first nor the last");
        int[] glasses = {25, 30, 51};
        for (int cell : glasses) {
            m.put(cell, 1);
            m.pivot(cell, 0, 0);
        }
        m.heir(27, 0);
        m.thing(38, 4, 0);
        m.thing(54, 5, 0);
        peaceAndQuarrel(new int[] {1, 2, 4}, new int[] {1, 2, NONE});
    }

    /** Three heirs, each with a pivot that he wants otherwise whenever the others have turned theirs. */
    private static void endless() {
        begin("it never ends, if what is turned and whose turn it is are as they were");
        int[] kinds = {53, 1, 26, 2, 0, 2, 6, 2, 45, 1};
        for (int i = 0; i < kinds.length; i += 2) {
            m.put(kinds[i], kinds[i + 1]);
        }
        m.heir(54, 0);
        m.heir(48, 0);
        m.heir(25, 0);
        m.thing(47, 95, 0);
        m.thing(1, 22, 0);
        m.thing(26, 29, 0);
        m.thing(27, 72, 0);
        m.pivot(0, 1, 0);
        m.pivot(6, 2, 0);
        m.pivot(26, 0, 0);
        peaceAndQuarrel(new int[] {NONE, NONE, 0}, new int[] {NONE, NONE, 8});
        due("at(26, 0): on paper", m.at(26, 0), 2);
        due("count(7)", m.count(7), 0);
        begin("it never ends; the first turn does not come again, and is counted");
        m.terms(0, 4);
        m.heir(54, 0);
        m.heir(15, 0);
        m.heir(50, 0);
        m.put(41, 2);
        m.put(30, 2);
        m.put(51, 2);
        m.put(11, 2);
        m.pivot(30, 0, 0);
        m.pivot(51, 0, 0);
        m.pivot(11, 2, 0);
        m.thing(62, 76, 0);
        m.thing(10, 14, 0);
        m.thing(14, 67, 0);
        due("quarrel(0)", m.quarrel(0), NONE);
        due("quarrel(1)", m.quarrel(1), NONE);
        due("quarrel(2)", m.quarrel(2), 7);
    }

    /** A hall that was found by chance: a heir turns one of his own back, though another would help him, too. */
    private static void turnsBack() {
        begin("a QUARREL: one that was TURNED is turned back");
        int[][] glasses = {{35, 1, NONE}, {52, 2, 0}, {28, 2, NONE}, {57, 1, NONE}, {59, 1, NONE}, {11, 1, 0}, {45, 2, 1}, {44, 1, 0}, {13, 1, 1}};
        m.terms(0, 5);
        m.heir(27, 0);
        m.heir(54, 0);
        for (int[] glass : glasses) {
            m.put(glass[0], glass[1]);
            if (glass[2] != NONE) {
                m.pivot(glass[0], glass[2], 0);
            }
        }
        m.thing(29, 28, 0);
        m.thing(5, 97, 0);
        m.thing(14, 27, 0);
        peaceAndQuarrel(new int[] {1, 1, 11}, new int[] {3, 8, NONE});
    }

    public static void main(String[] args) {
        beyondTheHall();
        glasses();
        glances();
        seen();
        fogged();
        fogOnTheRim();
        fullOfGlass();
        pairs();
        shares();
        estates();
        lit();
        stand();
        fogAndStand();
        firstToStand();
        tellings();
        turned();
        reveal();
        hints();
        hide();
        hides();
        peace();
        eightThatMatter();
        greatest();
        endless();
        turnsBack();
        finish("the edges of sight hold");
    }
}
