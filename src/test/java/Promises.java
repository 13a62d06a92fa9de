/** Promise by promise: ordinary calls, the edges that the document names, calls that are refused. */
public final class Promises extends Due {
    private static void newObject() {
        begin(1);
        for (int what = 0; what <= 13; what++) {
            due("count(" + what + ")", m.count(what), 0);
        }
        due("count(14)", m.count(14), NONE);
        for (int cell = 0; cell < 64; cell++) {
            due("at(" + cell + ", 0)", m.at(cell, 0), 0);
        }
        due("NONE", MirrorHeirs.NONE, -1);
    }

    private static void put() {
        begin(2);
        due("put(0, 1)", m.put(0, 1), 0);
        due("put(0, 5)", m.put(0, 5), 1);
        due("put(63, 4)", m.put(63, 4), 0);
        due("put(63, 0)", m.put(63, 0), 4);
        due("put(-1, 0)", m.put(-1, 0), -1);
        due("put(64, 0)", m.put(64, 0), -1);
        due("put(0, 6)", m.put(0, 6), -1);
        due("put(0, -1)", m.put(0, -1), -1);
        m.heir(9, 1);
        due("put(9, 6)", m.put(9, 6), -1);
        due("put(9, 3)", m.put(9, 3), -3);
        due("put(9, 0)", m.put(9, 0), 0);
        m.put(1, 1);
        m.put(2, 2);
        m.put(3, 4);
        m.pivot(1, 0, 1);
        m.pivot(2, 1, 2);
        m.pivot(3, 2, 3);
        due("put(2, 2)", m.put(2, 2), 2);
        due("count(0)", m.count(0), 2);
        due("at(2, 1)", m.at(2, 1), NONE);
        due("at(3, 1)", m.at(3, 1), 1);
        due("of(1, 2)", m.of(1, 2), 3);
    }

    private static void at() {
        begin(3);
        m.put(5, 2);
        m.pivot(5, NONE, 0);
        m.heir(6, 0);
        m.heir(6, 0);
        m.thing(7, 1, 0);
        m.thing(7, 1, 0);
        m.candle(8);
        due("at(5, 0)", m.at(5, 0), 2);
        due("at(5, 1)", m.at(5, 1), 0);
        due("at(6, 1)", m.at(6, 1), NONE);
        due("at(6, 2)", m.at(6, 2), 0);
        due("at(7, 3)", m.at(7, 3), 0);
        due("at(8, 4)", m.at(8, 4), 0);
        due("at(8, 3)", m.at(8, 3), NONE);
        due("at(64, 0)", m.at(64, 0), NONE);
        due("at(-1, 0)", m.at(-1, 0), NONE);
        due("at(5, 5)", m.at(5, 5), NONE);
        due("at(5, -1)", m.at(5, -1), NONE);
    }

    private static void pivot() {
        begin(4);
        for (int cell = 0; cell < 10; cell++) {
            m.put(cell, cell < 8 ? 1 + cell % 2 : 4 + cell % 2);
        }
        due("pivot(0, -1, 0)", m.pivot(0, -1, 0), 0);
        due("pivot(8, 5, 99)", m.pivot(8, 5, 99), 1);
        due("pivot(-1, 0, 0)", m.pivot(-1, 0, 0), -1);
        due("pivot(64, 0, 0)", m.pivot(64, 0, 0), -1);
        due("pivot(1, -2, 0)", m.pivot(1, -2, 0), -1);
        due("pivot(1, 6, 0)", m.pivot(1, 6, 0), -1);
        due("pivot(1, 0, -1)", m.pivot(1, 0, -1), -1);
        due("pivot(1, 0, 100)", m.pivot(1, 0, 100), -1);
        due("pivot(0, 6, 0)", m.pivot(0, 6, 0), -1);
        due("pivot(0, 0, 0)", m.pivot(0, 0, 0), -3);
        due("pivot(20, 0, 0)", m.pivot(20, 0, 0), -3);
        m.put(21, 3);
        due("pivot(21, 0, 0)", m.pivot(21, 0, 0), -3);
        for (int cell = 1; cell < 7; cell++) {
            due("pivot(" + cell + ", 0, 0)", m.pivot(cell, 0, 0), cell + 1);
        }
        due("pivot(7, 0, 0)", m.pivot(7, 0, 0), -5);
        due("pivot(0, 0, 0)", m.pivot(0, 0, 0), -3);
    }

    private static void of() {
        begin(5);
        m.put(30, 5);
        m.pivot(30, NONE, 42);
        m.put(31, 1);
        m.pivot(31, 3, 7);
        due("of(0, 0)", m.of(0, 0), 30);
        due("of(0, 1)", m.of(0, 1), NONE);
        due("of(0, 2)", m.of(0, 2), 42);
        due("of(1, 1)", m.of(1, 1), 3);
        due("of(1, 2)", m.of(1, 2), 7);
        due("of(2, 0)", m.of(2, 0), NONE);
        due("of(-1, 0)", m.of(-1, 0), NONE);
        due("of(0, 3)", m.of(0, 3), NONE);
        due("of(0, -1)", m.of(0, -1), NONE);
    }

    private static void turn() {
        begin(6);
        int[] kinds = {1, 2, 4, 5};
        int[] then = {2, 1, 5, 4};
        for (int i = 0; i < 4; i++) {
            m.put(i, kinds[i]);
            m.pivot(i, 0, 0);
        }
        for (int i = 0; i < 4; i++) {
            due("turn(" + i + ")", m.turn(i), then[i]);
            due("at(" + i + ", 0)", m.at(i, 0), then[i]);
        }
        due("turn(4)", m.turn(4), -2);
        due("turn(-1)", m.turn(-1), -2);
        due("turn(99)", m.turn(99), -2);
        refusedWith(-2);
    }

    private static void heir() {
        begin(7);
        m.put(1, 3);
        due("heir(0, 0)", m.heir(0, 0), 0);
        due("heir(0, 99)", m.heir(0, 99), 1);
        due("heir(64, 0)", m.heir(64, 0), -1);
        due("heir(-1, 0)", m.heir(-1, 0), -1);
        due("heir(2, 100)", m.heir(2, 100), -1);
        due("heir(2, -1)", m.heir(2, -1), -1);
        due("heir(1, 100)", m.heir(1, 100), -1);
        due("heir(1, 5)", m.heir(1, 5), -3);
        for (int i = 2; i < 6; i++) {
            due("heir(" + i + ", 1)", m.heir(i, 1), i);
        }
        due("heir(9, 1)", m.heir(9, 1), -5);
        due("heir(1, 1)", m.heir(1, 1), -3);
        due("count(1)", m.count(1), 6);
    }

    private static void move() {
        begin(8);
        m.put(1, 2);
        m.heir(0, 1);
        due("move(0, 9)", m.move(0, 9), 0);
        due("at(9, 2)", m.at(9, 2), 0);
        due("at(0, 2)", m.at(0, 2), NONE);
        due("move(0, 9)", m.move(0, 9), 9);
        due("move(0, 64)", m.move(0, 64), -1);
        due("move(3, 64)", m.move(3, 64), -1);
        due("move(0, -1)", m.move(0, -1), -1);
        due("move(1, 1)", m.move(1, 1), -2);
        due("move(-1, 5)", m.move(-1, 5), -2);
        due("move(0, 1)", m.move(0, 1), -3);
        due("at(9, 2)", m.at(9, 2), 0);
    }

    private static void undo() {
        begin(9);
        due("undo()", m.undo(), -3);
        m.put(1, 1);
        m.pivot(1, 0, 0);
        m.heir(0, 1);
        m.turn(0);
        m.move(0, 5);
        due("undo()", m.undo(), 1);
        due("at(0, 2)", m.at(0, 2), 0);
        due("undo()", m.undo(), 0);
        due("at(1, 0)", m.at(1, 0), 1);
        due("undo()", m.undo(), -3);
        m.turn(0);
        for (int i = 0; i < 16; i++) {
            m.move(0, 10 + i);
        }
        due("count(7)", m.count(7), 16);
        for (int i = 0; i < 16; i++) {
            due("undo()", m.undo(), 1);
        }
        due("at(0, 2)", m.at(0, 2), 0);
        due("undo()", m.undo(), -3);
        due("at(1, 0)", m.at(1, 0), 2);
        m.turn(0);
        m.put(64, 0);
        due("count(7)", m.count(7), 1);
        m.put(40, 0);
        due("undo() behind put()", m.undo(), -3);
        m.turn(0);
        write("");
        m.row();
        due("count(7) behind a refused row()", m.count(7), 1);
        write("\7");
        m.row();
        due("undo() behind row()", m.undo(), -3);
        m.turn(0);
        orders("move 0 to 8; wait; turn 0");
        due("undo()", m.undo(), 0);
        due("undo()", m.undo(), 1);
        due("at(0, 2)", m.at(0, 2), 0);
        due("count(16)", m.count(16), 1);
        due("undo()", m.undo(), 0);
        due("undo()", m.undo(), -3);
    }

    private static void thing() {
        begin(10);
        m.put(3, 3);
        due("thing(3, 1, 0)", m.thing(3, 1, 0), 0);
        due("thing(63, 99, 9)", m.thing(63, 99, 9), 1);
        due("thing(64, 1, 0)", m.thing(64, 1, 0), -1);
        due("thing(-1, 1, 0)", m.thing(-1, 1, 0), -1);
        due("thing(0, 0, 0)", m.thing(0, 0, 0), -1);
        due("thing(0, 100, 0)", m.thing(0, 100, 0), -1);
        due("thing(0, 1, 10)", m.thing(0, 1, 10), -1);
        due("thing(0, 1, -1)", m.thing(0, 1, -1), -1);
        for (int i = 2; i < 12; i++) {
            due("thing(0, 1, 0)", m.thing(0, 1, 0), i);
        }
        due("thing(0, 1, 0)", m.thing(0, 1, 0), -5);
        due("thing(64, 1, 0)", m.thing(64, 1, 0), -1);
    }

    private static void candle() {
        begin(11);
        m.put(3, 3);
        for (int i = 0; i < 4; i++) {
            due("candle(" + (i + 3) + ")", m.candle(i + 3), i);
        }
        due("candle(64)", m.candle(64), -1);
        due("candle(-1)", m.candle(-1), -1);
        due("candle(0)", m.candle(0), -5);
        due("count(3)", m.count(3), 4);
    }

    private static void terms() {
        begin(12);
        due("terms(0, 6)", m.terms(0, 6), 3);
        due("terms(0, 1)", m.terms(0, 1), 6);
        due("terms(0, 0)", m.terms(0, 0), -1);
        due("terms(0, 7)", m.terms(0, 7), -1);
        due("terms(1, 23)", m.terms(1, 23), 0);
        due("terms(1, 24)", m.terms(1, 24), -1);
        due("terms(1, -1)", m.terms(1, -1), -1);
        due("terms(2, 10)", m.terms(2, 10), 2);
        due("terms(2, 11)", m.terms(2, 11), -1);
        due("terms(2, 0)", m.terms(2, 0), 10);
        due("terms(3, 0)", m.terms(3, 0), -1);
        due("terms(-1, 1)", m.terms(-1, 1), -1);
        due("count(15)", m.count(15), 1);
        due("count(16)", m.count(16), 23);
        due("count(17)", m.count(17), 0);
    }

    private static void feed() {
        begin(13);
        due("feed", m.feed(0x00000102, 0x03040500, 0, 0, 0xff000000), 20);
        for (int i = 2; i <= 20; i++) {
            due("feed", m.feed(0, 0, 0, 0, 0), 20 * i);
        }
        due("feed beyond 400", m.feed(0, 0, 0, 0, 0), NONE);
        due("count(8)", m.count(8), 400);
        m.end(7);
        due("row() of the highest bytes first", m.row(), 6);
        int[] kinds = {0, 0, 1, 2, 3, 4, 5};
        for (int x = 0; x < 6; x++) {
            due("at(" + x + ", 0)", m.at(x, 0), kinds[x + 1]);
        }
        for (int i = 1; i <= 20; i++) {
            m.feed(0, 0, 0, 0, 0);
        }
        m.end(381);
        due("feed", m.feed(0, 0, 0, 0, 0), NONE);
        m.end(380);
        due("feed", m.feed(0, 0, 0, 0, 0), 400);
        refusedWith(0);
        // a byte of 255 is 255, not -1
        again();
        m.feed(0xff000000, 0, 0, 0, 0);
        due("row() of y 255", m.row(), -6);
    }

    private static void end() {
        begin(14);
        m.feed(0, 0, 0, 0, 0);
        due("end(21)", m.end(21), NONE);
        due("end(-1)", m.end(-1), NONE);
        due("end(20)", m.end(20), 20);
        due("end(3)", m.end(3), 3);
        due("end(4)", m.end(4), NONE);
        due("count(8)", m.count(8), 3);
        due("end(0)", m.end(0), 0);
        due("count(9)", m.count(9), 0);
    }

    private static void row() {
        begin(15);
        due("row() of nothing", m.row(), -6);
        write("\10\1");
        due("row() of y 8", m.row(), -6);
        due("count(8)", m.count(8), 0);
        m.heir(9, 1);
        m.heir(10, 1);
        m.put(11, 5);
        m.pivot(11, 0, 0);
        m.put(12, 5);
        m.pivot(12, 0, 0);
        m.put(13, 1);
        m.pivot(13, 0, 0);
        write("\1\1\0\3\6\2");
        due("row()", m.row(), 3);
        due("count(8)", m.count(8), 0);
        due("at(8, 0)", m.at(8, 0), 1);
        due("at(9, 0)", m.at(9, 0), 0);
        due("at(10, 0)", m.at(10, 0), 0);
        due("at(11, 0)", m.at(11, 0), 5);
        due("at(12, 0)", m.at(12, 0), 2);
        due("at(11, 1)", m.at(11, 1), 0);
        due("at(12, 1)", m.at(12, 1), NONE);
        due("at(13, 1)", m.at(13, 1), 1);
        due("dust()", m.dust(), 2);
        write("\7\1\2\3\4\5\0\1\2\3\3");
        due("row() of ten kinds", m.row(), 8);
        due("at(63, 0)", m.at(63, 0), 2);
        due("at(60, 0)", m.at(60, 0), 5);
        write("\0");
        due("row() of y alone", m.row(), 0);
    }

    private static void dust() {
        begin(16);
        due("dust()", m.dust(), 0);
        write("\0\6\377\1\1\1\1\1\1\1\1");
        due("row()", m.row(), 6);
        due("dust()", m.dust(), 4);
        m.row();
        due("dust() behind a refused row()", m.dust(), 4);
        write("\0\6");
        m.row();
        due("dust()", m.dust(), 1);
        write("\0");
        m.row();
        due("dust()", m.dust(), 0);
    }

    private static void law() {
        begin(17);
        due("law() of nothing", m.law(), -6);
        due("fault()", m.fault(), 0);
        faulty("     ", 5);
        faulty("claim", 0);
        faulty("  claims", 8);
        faulty("claims ;fogs", 7);
        faulty("fogs;", 5);
        faulty("fogs fogs", 5);
        faulty("fogs if", 7);
        faulty("fogs if x", 9);
        faulty("fogs if x<", 10);
        faulty("fogs if x<1 2", 12);
        faulty("fogs if (x<1", 12);
        faulty("fogs if (x<1]", 12);
        faulty("claims [1", 9);
        faulty("claims [1)", 9);
        faulty("claims (1)", 7);
        faulty("fogs if (x)<1", 10);
        faulty("fogs if not", 11);
        faulty("fogs if not not (x", 18);
        faulty("claims 1001", 7);
        faulty("claims 99999999999999999999", 7);
        faulty("claims 1 1", 9);
        faulty("claims 1+", 9);
        faulty("claims -1", 7);
        faulty("claims X", 7);
        faulty("claims done", 7);
        faulty("claims estate 0", 7);
        faulty("claimsx", 0);
        faulty("fogsz", 0);
        faulty("afogs", 0);
        faulty("fogs\n", 4);
        faulty("fogs \377", 5);
        faulty("fogs if x<1 and", 15);
        faulty("fogs if x<1 or or", 15);
        due("count(4)", m.count(4), 0);
        due("law()", law("claims 0001000*x/[y%2]-glance+hour;bars if heir=age or thing>worth and not high<lit"), 0);
        due("fault()", m.fault(), NONE);
        due("count(8)", m.count(8), 0);
        due("law()", law("fogs;bars;claims1"), 1);
        due("law()", law(" fogs if not not ( ( x = 1 ) ) "), 2);
        due("law() of 12", law("fogs;fogs;fogs;fogs;fogs;fogs;fogs;fogs;fogs;fogs;fogs;fogs"), 3);
        faulty("fogs;fogs;fogs;fogs;fogs;fogs;fogs;fogs;fogs;fogs;fogs;fogs;fogs", 60);
        faulty("fogs;fogs;fogs;fogs;fogs;fogs;fogs;fogs;fogs;fogs;fogs;fogs;", 60);
        faulty("fogs;fogs;fogs;fogs;fogs;fogs;fogs;fogs;fogs;fogs;fogs;fogs  fogs", 61);
        StringBuilder parts = new StringBuilder("claims 1");
        for (int i = 1; i < 50; i++) {
            parts.append("+x");
        }
        due("law() of 50 parts", law(parts.toString()), 4);
        faulty(parts + "+1", 107);
        faulty(parts + ";bars if x=1", 115);
        due("law() of 8 brackets", law("claims [[[[[[[[1]]]]]]]]+[1]"), 5);
        due("law() of a seventh", law("claims 1"), -5);
        due("fault() as it was", m.fault(), NONE);
        due("law() of a seventh, faulty", law("claims"), -5);
        due("fault() as it was", m.fault(), NONE);
        due("count(8)", m.count(8), 0);
        again();
        faulty("claims [[[[[[[[[1]]]]]]]]]", 15);
        faulty("bars if ((((([[[[1]]]]=1)))))", 16);
        due("law() of 5 and 3", law("bars if ((((([[[1]]]=1)))))"), 0);
    }

    private static void claimsOfLaws() {
        begin(17);
        claims("claims x*100+y*10+glance", 21);
        claims("claims hour*100+heir*10+thing", 500);
        claims("claims age", 40);
        claims("claims worth*10+high", 203);
        claims("claims 2+3*4", 14);
        claims("claims [2+3]*4", 20);
        claims("claims 10-3-2", 5);
        claims("claims 100/5/2", 10);
        claims("claims 17%10%4", 3);
        claims("claims [0-7]/2+10", 7);
        claims("claims [0-7]%4+10", 7);
        claims("claims 7/[0-2]+10", 7);
        claims("claims 0-5", 0);
        claims("claims 999", 999);
        claims("claims 1000", 999);
        claims("claims 5/0", 1);
        claims("claims 5%0", 1);
        claims("claims 3;claims 5/0", 3);
        claims("claims 3;claims 4", 4);
        claims("claims 3;claims 4 if x=9", 3);
        claims("claims 3;claims 4 if 1/0=1", 3);
        claims("claims 1000*1000*1000/1000/1000", 999);
        claims("claims 5;claims 1000*1000*1000+1-1", 5);
        claims("claims 5;claims 0-1000*1000*1000", 0);
        claims("claims 5;claims 0-1000*1000*1000-1", 5);
        claims("fogs", 1);
        claims("bars", 0);
        claims("bars if 1=2", 1);
        claims("bars if 1=1 or 1/0=1", 0);
        claims("bars if 1/0=1 or 1=1", 1);
        claims("bars if 1=2 and 1/0=1", 1);
        claims("bars if not (1=2 and 1/0=1)", 0);
        claims("bars if not 1/0=1", 1);
        claims("bars if 1=1 or 1=1 and 1=2", 0);
        claims("bars if (1=1 or 1=1) and 1=2", 1);
        claims("bars if not 1=1 or 2=2", 0);
        claims("bars if not not 1=1", 0);
        claims("bars if 1<2 and 2>1 and not 2<2 and not 2>2", 0);
        claims("claims 7;bars if lit=1", 7);
        m.candle(23);
        due("claim(0, 0, 0) of what is lit", m.claim(0, 0, 0), 0);
    }

    private static void orders() {
        begin(18);
        due("orders() of nothing", m.orders(), -6);
        faultyOrders("  ", 2);
        faultyOrders("turn", 4);
        faultyOrders("turn 0 to 1", 7);
        faultyOrders("move 0", 6);
        faultyOrders("move 0 to", 9);
        faultyOrders("move 0 5", 7);
        faultyOrders("wait 1", 5);
        faultyOrders("wait times", 10);
        faultyOrders("wait times 0", 11);
        faultyOrders("wait times 21", 11);
        faultyOrders("wait times hour", 11);
        faultyOrders("wait if 1=1 times 2", 12);
        faultyOrders("turn x", 5);
        faultyOrders("turn estate", 11);
        faultyOrders("turn estate 6", 12);
        faultyOrders("turn estate hour", 12);
        faultyOrders("turn sees 5", 11);
        faultyOrders("turn sees 5 12", 12);
        faultyOrders("turn sees 6 11", 10);
        faultyOrders("claims 1", 0);
        faultyOrders("wait;", 5);
        StringBuilder parts = new StringBuilder("turn sees 5 11");
        for (int i = 1; i < 50; i++) {
            parts.append("+1");
        }
        due("orders() of 50 parts", orders(parts + " times 20"), -3);
        faultyOrders(parts + "+estate 0", 113);
        due("orders() of 12", orders("wait;wait;wait;wait;wait;wait;wait;wait;wait;wait;wait;wait"), 12);
        faultyOrders("wait;wait;wait;wait;wait;wait;wait;wait;wait;wait;wait;wait;wait", 60);
        due("count(16)", m.count(16), 12);
        due("orders()", orders("wait times 20"), 20);
        due("count(16)", m.count(16), 8);
        due("count(8)", m.count(8), 0);
        m.put(3, 1);
        m.pivot(3, 0, 0);
        m.heir(0, 1);
        m.thing(11, 10, 0);
        m.candle(12);
        due("orders()", orders("turn pivots-1;move 0 to 8*[done+1]+1;wait times 3 if done<4"), 4);
        due("at(3, 0)", m.at(3, 0), 2);
        due("at(17, 2)", m.at(17, 2), 0);
        due("count(16)", m.count(16), 10);
        m.move(0, 0);
        due("orders()", orders("move 0 to 1 if estate 0=10*1000;move 0 to 2 if sees 0 0=2;move 0 to 4 if rent=10"), 3);
        due("at(4, 2)", m.at(4, 2), 0);
        due("orders()", orders("wait if estate 5=0 and sees 5 0=0-1 and sees 0 11=0-1;wait if 1/0=1;wait if hour=0"), 1);
        due("orders() of none", orders("turn 9 if 1=2"), 0);
        due("orders()", orders("move 0 to 5;turn 0;wait times 4;turn 1"), -3);
        due("at(4, 2)", m.at(4, 2), 0);
        due("at(3, 0)", m.at(3, 0), 2);
        due("count(16)", m.count(16), 11);
        int[] lost = {-3, -3, -3, -3, -3, -3, -3};
        String[] texts = {"turn 0-1", "turn 1/0", "move 1 to 0", "move 0 to 64", "move 0 to 3", "move 0 to 0-1", "move 1000*1000*1000*1000 to 0"};
        for (int i = 0; i < texts.length; i++) {
            due("orders() of " + texts[i], orders(texts[i]), lost[i]);
        }
        refusedWith(-3);
        due("orders() to the own cell", orders("move 0 to 4"), 1);
    }

    private static void fault() {
        begin(19);
        due("fault()", m.fault(), NONE);
        law("fogs x");
        due("fault()", m.fault(), 5);
        orders("turn 0");
        due("fault() behind orders that can't be", m.fault(), NONE);
        orders("turn 0 0");
        due("fault()", m.fault(), 7);
        law("fogs");
        due("fault()", m.fault(), NONE);
    }

    private static void stopped() {
        begin(20);
        due("stopped()", m.stopped(), NONE);
        orders("wait;wait times 3;turn 0");
        due("stopped()", m.stopped(), 2);
        law("fogs");
        due("stopped()", m.stopped(), 2);
        orders("wait");
        due("stopped()", m.stopped(), NONE);
        orders("turn 0");
        due("stopped()", m.stopped(), 0);
        orders("turn");
        due("stopped() behind a text that can't be", m.stopped(), NONE);
        m.put(1, 1);
        m.pivot(1, 0, 0);
        due("orders()", orders("turn done times 3"), -3);
        due("stopped()", m.stopped(), 0);
        due("at(1, 0)", m.at(1, 0), 1);
    }

    private static void force() {
        begin(21);
        due("force(0)", m.force(0), -2);
        due("force(-1)", m.force(-1), NONE);
        law("claims 1");
        law("claims 2");
        due("force(1)", m.force(1), NONE);
        due("force(0)", m.force(0), 1);
        due("force(2)", m.force(2), -2);
        due("force(-2)", m.force(-2), -2);
        due("count(14)", m.count(14), 0);
        due("force(-1)", m.force(-1), 0);
        due("count(14)", m.count(14), NONE);
    }

    private static void ray() {
        begin(22);
        int[][] due = {
            // kind, cell, direction, how many, the cell behind the glass at 27
            {1, 24, 1, 6, 19}, {2, 24, 1, 7, 35}, {1, 31, 3, 8, 35}, {2, 31, 3, 7, 19},
            {1, 59, 0, 8, 28}, {2, 59, 0, 7, 26}, {1, 3, 2, 6, 26}, {2, 3, 2, 7, 28},
            {4, 24, 1, 6, 19}, {5, 24, 1, 7, 35}, {3, 24, 1, 3, NONE}, {0, 24, 1, 7, 28}};
        for (int[] row : due) {
            m.put(27, row[0]);
            int to = 1;
            while (m.ray(row[1], row[2], to - 1) != 27) {
                to++;
            }
            due("ray(" + row[1] + ", " + row[2] + ", -1) by " + row[0], m.ray(row[1], row[2], NONE), row[3]);
            due("ray(" + row[1] + ", " + row[2] + ", " + to + ")", m.ray(row[1], row[2], to), row[4]);
            due("ray beyond", m.ray(row[1], row[2], row[3]), NONE);
        }
        due("ray(64, 0, -1)", m.ray(64, 0, -1), NONE);
        due("ray(-1, 0, -1)", m.ray(-1, 0, -1), NONE);
        due("ray(0, 4, -1)", m.ray(0, 4, -1), NONE);
        due("ray(0, -1, -1)", m.ray(0, -1, -1), NONE);
        due("ray(0, 1, -2)", m.ray(0, 1, -2), NONE);
        due("ray(0, 0, 0)", m.ray(0, 0, 0), NONE);
        m.put(27, 1);
        m.terms(0, 1);
        due("ray by one glance", m.ray(24, 1, NONE), 3);
        // four glasses send it round: 14 by glance 1, 54, 49, 9, 14 by glance 5, 54 by the last one
        again();
        m.terms(0, 6);
        m.put(9, 1);
        m.put(14, 2);
        m.put(54, 1);
        m.put(49, 2);
        due("ray round", m.ray(10, 1, NONE), 29);
        due("ray round, last", m.ray(10, 1, 28), 54);
        inForce("fogs if glance=2");
        due("ray into fog", m.ray(10, 1, NONE), 9);
    }

    private static void glance() {
        begin(23);
        due("glance(0, 0)", m.glance(0, 0), 0);
        due("glance(0, 7)", m.glance(0, 7), 1);
        due("glance(0, 56)", m.glance(0, 56), 1);
        due("glance(0, 9)", m.glance(0, 9), NONE);
        due("glance(64, 0)", m.glance(64, 0), NONE);
        due("glance(0, -1)", m.glance(0, -1), NONE);
        m.put(3, 4);
        due("straight on through a cracked one", m.glance(0, 7), 1);
        m.put(27, 5);
        due("from 24 down by a cracked one", m.glance(24, 59), 2);
        due("from 24 straight on", m.glance(24, 31), 1);
        m.put(28, 3);
        due("a pillar is seen", m.glance(24, 28), 1);
        due("behind a pillar", m.glance(24, 29), NONE);
        due("from a pillar's cell", m.glance(28, 31), 1);
        m.put(59, 2);
        due("by three glances", m.glance(24, 63), 3);
        m.terms(0, 2);
        due("by three of two glances", m.glance(24, 63), NONE);
        due("the last glass", m.glance(24, 59), 2);
        // fog lets a later glance through where it stopped the first
        again();
        m.terms(0, 6);
        m.put(3, 2);
        inForce("fogs if x=3 and y=0 and hour=1");
        due("no fog", m.glance(0, 11), 2);
        m.terms(1, 1);
        due("fog", m.glance(0, 11), NONE);
        due("the fogged one is seen", m.glance(0, 3), 1);
        m.put(3, 5);
        due("a fogged cracked one, turned", m.glance(0, 11), NONE);
        due("a fogged cracked one, straight on", m.glance(0, 7), 1);
        inForce("fogs if heir+age+thing+worth+high+lit=0-6");
        due("what fog is not asked of is -1", m.glance(0, 11), NONE);
        // two ways into one ray, through a cracked glass at 18: fog at 20 stops the first glance, not the fourth
        again();
        m.terms(0, 6);
        m.put(18, 4);
        m.put(20, 2);
        m.put(40, 2);
        m.put(42, 1);
        due("glance(16, 28)", m.glance(16, 28), 2);
        inForce("fogs if x=4 and glance=1");
        due("glance(16, 28) by the long way", m.glance(16, 28), 5);
        m.terms(0, 4);
        due("glance(16, 28) by four", m.glance(16, 28), NONE);
    }

    private static void views() {
        begin(24);
        due("views(0)", m.views(0), 0);
        m.thing(0, 1, 0);
        m.thing(9, 1, 0);
        m.thing(7, 1, 0);
        due("views(0)", m.views(0), 5);
        due("views(1)", m.views(1), 7);
        due("views(18)", m.views(18), 0);
        due("views(64)", m.views(64), NONE);
        due("views(-1)", m.views(-1), NONE);
    }

    private static void pair() {
        begin(25);
        m.heir(0, 1);
        m.heir(7, 1);
        m.heir(9, 1);
        m.heir(9, 1);
        due("pair(0, 1)", m.pair(0, 1), 1);
        due("pair(1, 0)", m.pair(1, 0), 1);
        due("pair(0, 2)", m.pair(0, 2), 0);
        due("pair of one cell", m.pair(2, 3), 1);
        due("pair(0, 0)", m.pair(0, 0), NONE);
        due("pair(0, 4)", m.pair(0, 4), NONE);
        due("pair(-1, 0)", m.pair(-1, 0), NONE);
        // by fog of the second glance at one glass, only one of two sees the other
        again();
        m.heir(0, 1);
        m.heir(63, 1);
        m.put(3, 2);
        m.put(27, 2);
        m.put(31, 2);
        inForce("fogs if x=3 and y=0 and glance=3");
        m.terms(0, 6);
        due("glance(0, 63)", m.glance(0, 63), 4);
        due("glance(63, 0)", m.glance(63, 0), NONE);
        due("pair(0, 1)", m.pair(0, 1), 0);
    }

    private static void claim() {
        begin(26);
        m.heir(7, 6);
        m.heir(56, 4);
        m.heir(63, 9);
        m.move(2, 62);
        m.thing(0, 7, 0);
        due("claim without a law", m.claim(0, 0, 0), 1);
        due("upper", m.claim(0, 0, 1), 1);
        inForce("claims age");
        // 62 is in the row of 56: the two are a pair, and have nothing
        due("claim(0, 0, 0)", m.claim(0, 0, 0), 6);
        due("claim(0, 0, 1)", m.claim(0, 0, 1), 1);
        due("claim(1, 0, 0)", m.claim(1, 0, 0), 0);
        m.move(2, 54);
        due("claim(1, 0, 0)", m.claim(1, 0, 0), 4);
        due("claim(0, 0, 1)", m.claim(0, 0, 1), 3);
        due("claim(0, 0, 2)", m.claim(0, 0, 2), 5);
        due("claim(1, 0, 1)", m.claim(1, 0, 1), 2);
        due("claim(1, 0, 2)", m.claim(1, 0, 2), 5);
        due("claim(2, 0, 0)", m.claim(2, 0, 0), 0);
        due("claim(2, 0, 1)", m.claim(2, 0, 1), 0);
        due("claim(2, 0, 2)", m.claim(2, 0, 2), 1);
        due("claim(3, 0, 0)", m.claim(3, 0, 0), NONE);
        due("claim(0, 1, 0)", m.claim(0, 1, 0), NONE);
        due("claim(0, 0, 3)", m.claim(0, 0, 3), NONE);
        due("claim(0, 0, -1)", m.claim(0, 0, -1), NONE);
        due("claim(-1, 0, 0)", m.claim(-1, 0, 0), NONE);
        inForce("claims 0");
        due("claim(0, 0, 2) of 0", m.claim(0, 0, 2), 1);
        claimsOfLaws();
    }

    private static void owner() {
        begin(27);
        m.thing(0, 7, 0);
        due("owner(0, 0)", m.owner(0, 0), NONE);
        due("owner(0, 1)", m.owner(0, 1), 0);
        m.heir(54, 1);
        m.heir(7, 6);
        due("owner(0, 0)", m.owner(0, 0), 1);
        due("owner(0, 1)", m.owner(0, 1), 1);
        m.heir(56, 4);
        due("owner(0, 0)", m.owner(0, 0), NONE);
        due("owner(0, 1)", m.owner(0, 1), 2);
        inForce("claims 0 if age=6");
        due("owner(0, 0) where one claims 0", m.owner(0, 0), 2);
        due("owner(0, 1)", m.owner(0, 1), 1);
        inForce("bars if heir=2");
        due("owner(0, 0) where one is barred", m.owner(0, 0), 1);
        due("owner(1, 0)", m.owner(1, 0), NONE);
        due("owner(0, 2)", m.owner(0, 2), NONE);
        due("owner(-1, 0)", m.owner(-1, 0), NONE);
    }

    private static void estate() {
        begin(28);
        m.heir(7, 1);
        m.heir(56, 2);
        m.thing(0, 10, 0);
        m.thing(1, 5, 0);
        inForce("claims age");
        due("estate(0)", m.estate(0), 3333 + 5000);
        due("estate(1)", m.estate(1), 6666);
        m.thing(0, 10, 0);
        due("estate(0), each cut", m.estate(0), 3333 + 5000 + 3333);
        due("estate(2)", m.estate(2), NONE);
        due("estate(-1)", m.estate(-1), NONE);
        m.heir(6, 1);
        due("estate(0) of a pair", m.estate(0), 0);
        due("estate(2) of a pair", m.estate(2), 0);
        due("estate(1)", m.estate(1), 20000);
    }

    private static void lit() {
        begin(29);
        due("lit(0)", m.lit(0), NONE);
        due("lit(-1)", m.lit(-1), 0);
        m.put(3, 2);
        m.candle(0);
        m.thing(11, 10, 0);
        m.thing(7, 20, 0);
        due("lit(0)", m.lit(0), 0);
        due("lit(1)", m.lit(1), 1);
        due("lit(11)", m.lit(11), 2);
        due("lit(7)", m.lit(7), NONE);
        due("lit(-1)", m.lit(-1), 10);
        m.candle(10);
        due("lit(11) by the nearer", m.lit(11), 1);
        due("lit(-1) once", m.lit(-1), 10);
        m.candle(15);
        due("lit(-1)", m.lit(-1), 30);
        due("lit(64)", m.lit(64), NONE);
        due("lit(-2)", m.lit(-2), NONE);
    }

    private static void stand() {
        begin(30);
        due("stand(1, 0) of no thing", m.stand(1, 0), 64);
        due("stand(4, 0) of no thing", m.stand(4, 0), 635376);
        due("stand(4, 4) of no thing", m.stand(4, 4), 3);
        m.thing(0, 1, 0);
        due("stand(1, 0)", m.stand(1, 0), 15);
        due("stand(2, 0)", m.stand(2, 0), 15 * 49);
        due("stand(2, 1)", m.stand(2, 1), 0);
        due("stand(2, 2)", m.stand(2, 2), 9);
        due("stand(3, 0)", m.stand(3, 0), 15 * 1176);
        due("stand(4, 0)", m.stand(4, 0), 15 * 18424);
        due("stand(4, 4)", m.stand(4, 4), 11);
        m.thing(63, 1, 0);
        due("stand(1, 0)", m.stand(1, 0), 2);
        due("stand(1, 1)", m.stand(1, 1), 7);
        due("stand(2, 0)", m.stand(2, 0), 72 + 169);
        due("stand(2, 1)", m.stand(2, 1), 0);
        due("stand(2, 2)", m.stand(2, 2), 15);
        due("stand(0, 0)", m.stand(0, 0), NONE);
        due("stand(5, 0)", m.stand(5, 0), NONE);
        due("stand(2, 3)", m.stand(2, 3), NONE);
        due("stand(2, -1)", m.stand(2, -1), NONE);
        m.heir(7, 1);
        inForce("bars;claims 0");
        due("stand(1, 1), heirs and other laws aside", m.stand(1, 1), 7);
        for (int cell = 0; cell < 64; cell++) {
            m.put(cell, 3);
        }
        due("stand(1, 0) among pillars", m.stand(1, 0), 0);
        due("stand(1, 1) among pillars", m.stand(1, 1), NONE);
        m.put(0, 0);
        m.thing(0, 1, 0);
        due("stand(1, 0) of one that sees but one of two", m.stand(1, 0), 0);
        due("stand(2, 0) of two cells", m.stand(2, 0), 0);
        due("stand(2, 1)", m.stand(2, 1), NONE);
    }

    private static void telling() {
        begin(31);
        due("telling(0, 1, 6)", m.telling(0, 1, 6), 1);
        due("telling(0, 0, -1)", m.telling(0, 0, -1), 2);
        due("telling(64, 0, 0)", m.telling(64, 0, 0), -1);
        due("telling(0, 64, 0)", m.telling(0, 64, 0), -1);
        due("telling(-1, 0, 0)", m.telling(-1, 0, 0), -1);
        due("telling(0, 0, 7)", m.telling(0, 0, 7), -1);
        due("telling(0, 0, -2)", m.telling(0, 0, -2), -1);
        for (int i = 3; i <= 10; i++) {
            due("telling", m.telling(1, 2, 0), i);
        }
        due("telling", m.telling(1, 2, 0), -5);
        due("telling", m.telling(1, 2, 7), -1);
        due("count(5)", m.count(5), 10);
    }

    private static void turned() {
        begin(32);
        due("turned(0) of none", m.turned(0), 1);
        due("turned(2) of none", m.turned(2), 0);
        m.put(3, 1);
        m.put(24, 1);
        m.put(60, 1);
        m.pivot(60, 0, 0);
        m.pivot(24, 0, 0);
        m.pivot(3, 0, 0);
        due("turned(0)", m.turned(0), 8);
        // 27 is seen from 0 if one of 3 and 24 is falling
        m.telling(0, 27, 2);
        due("turned(0)", m.turned(0), 6);
        due("turned(1)", m.turned(1), 1);
        due("turned(2)", m.turned(2), 2);
        m.telling(0, 25, NONE);
        due("turned(0)", m.turned(0), 2);
        due("turned(2)", m.turned(2), 4);
        due("turned(3)", m.turned(3), NONE);
        due("turned(-1)", m.turned(-1), NONE);
        due("at(3, 0), on paper only", m.at(3, 0), 1);
        m.telling(0, 27, 1);
        due("turned(0)", m.turned(0), 0);
        due("turned(1)", m.turned(1), NONE);
        due("turned(2)", m.turned(2), NONE);
        // 27 is seen from 0 by 5 and 29, or by 48 and 51: sets 3, 4, 5, 6, 7
        again();
        m.put(5, 1);
        m.put(29, 2);
        m.put(48, 2);
        m.put(51, 2);
        m.pivot(5, 0, 0);
        m.pivot(29, 0, 0);
        m.pivot(51, 0, 0);
        m.telling(0, 27, 3);
        due("turned(0)", m.turned(0), 5);
        due("turned(1)", m.turned(1), 1);
        due("turned(2), the fewest ahead of the lowest", m.turned(2), 4);
    }

    private static void hint() {
        begin(33);
        m.heir(0, 1);
        due("hint(0, 6)", m.hint(0, 6), 1);
        due("hint(0, -1)", m.hint(0, -1), 2);
        due("hint(0, 7)", m.hint(0, 7), -1);
        due("hint(1, 7)", m.hint(1, 7), -1);
        due("hint(0, -2)", m.hint(0, -2), -1);
        due("hint(1, 0)", m.hint(1, 0), -2);
        due("hint(-1, 0)", m.hint(-1, 0), -2);
        for (int i = 3; i <= 6; i++) {
            due("hint", m.hint(0, 1), i);
        }
        due("hint", m.hint(0, 1), -5);
        due("hint", m.hint(1, 1), -2);
        due("count(6)", m.count(6), 6);
    }

    private static void stranger() {
        begin(34);
        due("stranger(-1)", m.stranger(-1), 64);
        m.put(5, 3);
        due("stranger(-1)", m.stranger(-1), 63);
        due("stranger(5)", m.stranger(5), 6);
        m.heir(0, 1);
        m.hint(0, 0);
        due("stranger(-1)", m.stranger(-1), 1);
        due("stranger(0)", m.stranger(0), 0);
        due("stranger(1)", m.stranger(1), NONE);
        due("stranger(-2)", m.stranger(-2), NONE);
        m.forget();
        m.hint(0, 1);
        due("stranger(-1)", m.stranger(-1), 4 + 7);
        due("stranger(4)", m.stranger(4), 8);
        m.heir(27, 1);
        m.hint(1, NONE);
        due("stranger(-1)", m.stranger(-1), 4 + 7 - 2);
        m.forget();
        m.hint(0, NONE);
        due("stranger(-1)", m.stranger(-1), 63 - 12);
    }

    private static void forget() {
        begin(35);
        due("forget()", m.forget(), 0);
        m.heir(0, 1);
        m.telling(0, 0, 0);
        m.telling(0, 0, 0);
        m.hint(0, 0);
        due("forget()", m.forget(), 3);
        due("count(5)", m.count(5), 0);
        due("count(6)", m.count(6), 0);
        due("forget()", m.forget(), 0);
    }

    private static void reveal() {
        begin(36);
        m.put(3, 1);
        m.put(24, 1);
        m.pivot(3, 0, 9);
        m.pivot(24, 0, 5);
        m.heir(0, 1);
        m.thing(27, 1, 0);
        m.thing(63, 1, 0);
        m.thing(1, 1, 0);
        due("reveal(0, 0, 2, 0)", m.reveal(0, 0, 2, 0), 5);
        due("reveal(0, 0, 2, 1)", m.reveal(0, 0, 2, 1), 2);
        due("reveal(0, 0, 99, 1)", m.reveal(0, 0, 99, 1), 2);
        due("reveal(0, 0, 1, 0)", m.reveal(0, 0, 1, 0), NONE);
        due("reveal(0, 0, -1, 0)", m.reveal(0, 0, -1, 0), NONE);
        due("reveal(0, 1, 6, 0)", m.reveal(0, 1, 6, 0), NONE);
        due("reveal(0, 2, 1, 0)", m.reveal(0, 2, 1, 0), 0);
        due("reveal(0, 2, 1, 1)", m.reveal(0, 2, 1, 1), 0);
        due("reveal(0, 2, 0, 1)", m.reveal(0, 2, 0, 1), NONE);
        due("reveal(1, 0, 2, 0)", m.reveal(1, 0, 2, 0), NONE);
        due("reveal(0, 3, 2, 0)", m.reveal(0, 3, 2, 0), NONE);
        due("reveal(0, 0, 2, 2)", m.reveal(0, 0, 2, 2), NONE);
        due("reveal(0, 0, 2, -1)", m.reveal(0, 0, 2, -1), NONE);
        again();
        m.put(3, 1);
        m.put(24, 1);
        m.pivot(3, 0, 5);
        m.pivot(24, 0, 5);
        m.heir(0, 1);
        m.thing(27, 1, 0);
        due("reveal, the lowest of alike ones", m.reveal(0, 0, 2, 1), 1);
    }

    private static void hide() {
        begin(37);
        m.heir(0, 1);
        m.heir(2, 1);
        m.thing(5, 1, 0);
        m.thing(4, 1, 0);
        m.thing(0, 1, 0);
        m.thing(9, 1, 0);
        due("hide(0, 0, -1)", m.hide(0, 0, -1), 2);
        due("hide(0, 0, 0)", m.hide(0, 0, 0), 1);
        due("hide(0, 0, 1)", m.hide(0, 0, 1), 3);
        due("hide(0, 0, 2)", m.hide(0, 0, 2), NONE);
        due("hide(0, 0, -2)", m.hide(0, 0, -2), NONE);
        due("hide of the own cell", m.hide(0, 2, -1), 0);
        due("hide of what is not seen", m.hide(0, 3, -1), NONE);
        due("hide(2, 0, -1)", m.hide(2, 0, -1), NONE);
        due("hide(0, 4, -1)", m.hide(0, 4, -1), NONE);
        due("at(1, 0), on paper only", m.at(1, 0), 0);
        // two ways to 27: neither alone hides it
        m.put(7, 2);
        m.put(24, 2);
        m.put(31, 1);
        m.thing(27, 1, 0);
        m.move(1, 40);
        due("hide(0, 4, -1) of two ways", m.hide(0, 4, -1), 0);
    }

    private static void hides() {
        begin(38);
        m.heir(0, 1);
        m.heir(1, 1);
        m.heir(57, 1);
        m.thing(5, 1, 0);
        m.thing(6, 1, 0);
        m.thing(2, 1, 0);
        m.put(3, 3);
        due("hides(3)", m.hides(3), 4);
        due("hides(4)", m.hides(4), NONE);
        due("hides(64)", m.hides(64), NONE);
        due("hides(-1)", m.hides(-1), NONE);
        m.put(4, 3);
        due("hides(3) with one more behind", m.hides(3), 0);
        due("at(3, 0)", m.at(3, 0), 3);
        m.put(10, 1);
        due("hides of a glass", m.hides(10), NONE);
    }

    private static void peace() {
        begin(39);
        due("peace(0) without heirs", m.peace(0), 0);
        m.put(3, 1);
        m.pivot(3, 0, 5);
        due("peace(2) without heirs", m.peace(2), 2);
        m.heir(0, 1);
        m.thing(11, 10, 0);
        due("peace(0)", m.peace(0), 1);
        due("peace(1)", m.peace(1), 1);
        due("peace(2)", m.peace(2), 1);
        due("peace(3)", m.peace(3), NONE);
        due("peace(-1)", m.peace(-1), NONE);
        due("at(3, 0), on paper only", m.at(3, 0), 1);
        m.turn(0);
        due("peace(0)", m.peace(0), 0);
        due("peace(1)", m.peace(1), 0);
        m.put(3, 1);
        m.pivot(3, 1, 5);
        due("peace(0) where the owner is not there", m.peace(0), 0);
        due("peace(2)", m.peace(2), 2);
        again();
        twoWays();
        due("peace(0)", m.peace(0), 1);
        due("peace(1)", m.peace(1), 1);
        due("peace(2)", m.peace(2), 3);
        // only what is lit changes: by the glass at 29 the candle at 24 shines on 5, or not
        again();
        m.put(29, 2);
        m.pivot(29, 0, 0);
        m.heir(0, 1);
        m.thing(5, 10, 0);
        m.candle(24);
        inForce("bars if lit=0");
        due("peace(0) by light", m.peace(0), 1);
        due("peace(2) by light", m.peace(2), 1);
        due("quarrel(1) by light", m.quarrel(1), 1);
        m.force(NONE);
        due("peace(0) without the law", m.peace(0), 0);
        due("peace(2) without the law", m.peace(2), 2);
        again();
        endless();
        due("peace(0) that is none", m.peace(0), NONE);
        due("peace(1) that is none", m.peace(1), NONE);
        due("peace(2) that is none", m.peace(2), 0);
    }

    private static void twoWays() {
        m.put(3, 1);
        m.put(24, 1);
        m.pivot(3, 0, 0);
        m.pivot(24, 0, 0);
        m.heir(0, 1);
        m.thing(27, 10, 0);
    }

    private static void endless() {
        int[] kinds = {53, 1, 26, 2, 0, 2, 6, 2, 45, 1};
        for (int i = 0; i < kinds.length; i += 2) {
            m.put(kinds[i], kinds[i + 1]);
        }
        m.heir(54, 0);
        m.heir(48, 0);
        m.heir(25, 0);
        m.thing(47, 95, 0);
        m.thing(1, 22, 0);
        m.thing(26, 29, 0);
        m.thing(27, 72, 0);
        m.pivot(0, 1, 0);
        m.pivot(6, 2, 0);
        m.pivot(26, 0, 0);
    }

    private static void quarrel() {
        begin(40);
        due("quarrel(0) without heirs", m.quarrel(0), 0);
        due("quarrel(1) without heirs", m.quarrel(1), 0);
        due("quarrel(2) without heirs", m.quarrel(2), NONE);
        twoWays();
        due("quarrel(0)", m.quarrel(0), 1);
        due("quarrel(1), the lowest of alike ones", m.quarrel(1), 1);
        due("quarrel(2)", m.quarrel(2), NONE);
        due("quarrel(3)", m.quarrel(3), NONE);
        due("quarrel(-1)", m.quarrel(-1), NONE);
        due("at(3, 0), on paper only", m.at(3, 0), 1);
        m.thing(25, 10, 0);
        due("quarrel(1), the greatest", m.quarrel(1), 2);
        m.thing(11, 1, 0);
        due("quarrel(0), one turn behind another", m.quarrel(0), 2);
        due("quarrel(1), one turn behind another", m.quarrel(1), 3);
        again();
        endless();
        due("quarrel(0) without end", m.quarrel(0), NONE);
        due("quarrel(1) without end", m.quarrel(1), NONE);
        due("quarrel(2) without end", m.quarrel(2), 8);
    }

    private static void draughts() {
        begin(41);
        due("draughts(0, 48) of no candle", m.draughts(0, 48), 0);
        due("draughts(-1, 1)", m.draughts(-1, 1), -1);
        due("draughts(1000001, 1)", m.draughts(1000001, 1), -1);
        due("draughts(0, -1)", m.draughts(0, -1), -1);
        due("draughts(0, 49)", m.draughts(0, 49), -1);
        due("draughts(1000000, 0)", m.draughts(1000000, 0), 0);
        // s: 12345 (5 of 10), 628841 (1 of 4: right)
        m.candle(0);
        m.thing(9, 5, 0);
        due("draughts(0, 1), no draught", m.draughts(0, 1), 0);
        m.terms(2, 6);
        due("draughts(0, 1)", m.draughts(0, 1), 5);
        due("at(0, 4), on paper only", m.at(0, 4), 0);
        m.terms(2, 5);
        due("draughts(0, 1) of 5", m.draughts(0, 1), 0);
        // rents by hours: from the next one on, 0 behind 23
        again();
        m.candle(0);
        m.put(3, 2);
        m.thing(11, 10, 0);
        m.terms(2, 0);
        inForce("fogs if hour=1");
        due("draughts(0, 1)", m.draughts(0, 1), 0);
        due("draughts(0, 3)", m.draughts(0, 3), 20);
        m.terms(1, 23);
        due("draughts(0, 1)", m.draughts(0, 1), 10);
        due("draughts(0, 3)", m.draughts(0, 3), 20);
        due("count(16)", m.count(16), 23);
    }

    private static void drawn() {
        begin(42);
        due("drawn(0, 0)", m.drawn(0, 0), NONE);
        m.candle(0);
        m.terms(2, 10);
        due("drawn(0, 0) ahead of any", m.drawn(0, 0), NONE);
        m.draughts(0, 0);
        due("drawn(0, 0)", m.drawn(0, 0), 0);
        due("drawn(0, 1)", m.drawn(0, 1), 0);
        m.draughts(0, 1);
        due("drawn(0, 0)", m.drawn(0, 0), 1);
        due("drawn(0, 1)", m.drawn(0, 1), 1);
        m.draughts(0, 49);
        due("drawn(0, 0) behind refused ones", m.drawn(0, 0), 1);
        m.candle(5);
        due("drawn(1, 0) of a later candle", m.drawn(1, 0), NONE);
        due("drawn(-1, 0)", m.drawn(-1, 0), NONE);
        due("drawn(0, 2)", m.drawn(0, 2), NONE);
        due("drawn(0, -1)", m.drawn(0, -1), NONE);
        m.put(1, 3);
        m.draughts(0, 1);
        due("drawn(0, 0) where it can't go", m.drawn(0, 0), 0);
        due("drawn(0, 1) where it can't go", m.drawn(0, 1), 0);
        due("drawn(1, 0)", m.drawn(1, 0) != 5 && m.drawn(1, 1) == 1 ? 1 : 0, 1);
    }

    private static void image() {
        begin(43);
        due("image(0)", m.image(0), 0);
        due("image(1)", m.image(1), 0);
        due("image(2)", m.image(2), -1);
        due("image(-1)", m.image(-1), -1);
        m.put(1, 1);
        due("image(0)", m.image(0), 0);
        m.put(1, 2);
        m.back(0);
        due("at(1, 0) of the latest image", m.at(1, 0), 1);
        m.back(1);
        due("at(1, 0)", m.at(1, 0), 0);
    }

    private static void back() {
        begin(44);
        due("back(0)", m.back(0), -2);
        due("back(2)", m.back(2), -1);
        due("back(-1)", m.back(-1), -1);
        m.put(1, 1);
        m.put(2, 4);
        m.pivot(1, 0, 1);
        m.heir(5, 30);
        m.thing(6, 7, 8);
        m.candle(9);
        m.terms(0, 4);
        m.terms(1, 5);
        inForce("claims 5");
        m.telling(0, 0, 0);
        m.hint(0, 0);
        m.turn(0);
        m.image(1);
        m.turn(0);
        m.put(1, 0);
        m.move(0, 20);
        m.heir(21, 1);
        m.thing(21, 1, 1);
        m.candle(22);
        m.terms(0, 1);
        m.terms(1, 1);
        m.terms(2, 1);
        inForce("claims 6");
        m.forget();
        m.draughts(0, 1);
        write("ab");
        m.undo();
        m.put(64, 0);
        int refused = m.count(9);
        int[] were = {1, 1, 1, 1, 1, 1, 1};
        due("back(1)", m.back(1), 0);
        for (int what = 0; what < were.length; what++) {
            due("count(" + what + ")", m.count(what), were[what]);
        }
        due("count(7), nothing can be undone", m.count(7), 0);
        due("undo()", m.undo(), -3);
        due("count(8), the tape stays", m.count(8), 2);
        due("count(9), refusals stay", m.count(9), refused);
        due("count(14)", m.count(14), 0);
        due("count(15)", m.count(15), 4);
        due("count(16)", m.count(16), 5);
        due("count(17)", m.count(17), 2);
        due("at(1, 0)", m.at(1, 0), 2);
        due("at(1, 1)", m.at(1, 1), 0);
        due("of(0, 2)", m.of(0, 2), 1);
        due("at(5, 2)", m.at(5, 2), 0);
        due("claim(0, 0, 0)", m.claim(0, 0, 0), 5);
        due("drawn(1, 1) stays", m.drawn(1, 1) != NONE ? 1 : 0, 1);
        due("stranger(0)", m.stranger(0), 5);
        m.put(40, 3);
        due("back(1) once more", m.back(1), 0);
        due("at(40, 0)", m.at(40, 0), 0);
        due("back(0)", m.back(0), -2);
        // what was written over since then is there again
        again();
        m.image(0);
        for (int cell = 0; cell < 64; cell++) {
            m.put(cell, 1 + cell % 5);
        }
        m.thing(0, 10, 1);
        m.thing(0, 20, 2);
        law("claims 7");
        m.image(1);
        m.back(0);
        m.heir(0, 1);
        m.thing(1, 1, 1);
        inForce("claims 9");
        m.back(1);
        for (int cell = 0; cell < 64; cell++) {
            due("at(" + cell + ", 0)", m.at(cell, 0), 1 + cell % 5);
        }
        m.put(0, 0);
        m.heir(0, 1);
        m.force(0);
        due("claim(0, 0, 0)", m.claim(0, 0, 0), 7);
        due("estate(0)", m.estate(0), 30000);
    }

    private static void count() {
        begin(45);
        m.put(64, 0);
        m.turn(0);
        m.undo();
        m.undo();
        for (int i = 0; i < 5; i++) {
            m.candle(0);
        }
        m.row();
        m.row();
        m.law();
        m.feed(0, 0, 0, 0, 0);
        int[] due = {0, 0, 0, 4, 0, 0, 0, 0, 20, 1, 1, 2, 1, 3, -1, 3, 0, 2};
        for (int what = 0; what < due.length; what++) {
            due("count(" + what + ")", m.count(what), due[what]);
        }
        due("count(18)", m.count(18), NONE);
        due("count(-1)", m.count(-1), NONE);
        m.image(0);
        m.put(64, 0);
        m.back(0);
        due("count(9), not kept by images", m.count(9), 2);
        // what only answers NONE is not counted
        m.at(64, 0);
        m.end(-1);
        m.estate(9);
        m.stand(9, 9);
        due("count(9)", m.count(9), 2);
        m.heir(0, 0);
        m.heir(0, 0);
        m.thing(0, 1, 0);
        m.telling(0, 0, 0);
        m.hint(0, 0);
        law("fogs");
        m.put(3, 1);
        m.pivot(3, 0, 0);
        m.turn(0);
        int[] now = {1, 2, 1, 4, 1, 1, 1, 1, 0};
        for (int what = 0; what < now.length; what++) {
            due("count(" + what + ")", m.count(what), now[what]);
        }
    }

    private static void status() {
        begin(46);
        refusedWith(0);
        m.put(64, 0);
        refusedWith(-1);
        m.at(0, 0);
        m.feed(0, 0, 0, 0, 0);
        m.end(99);
        m.estate(0);
        m.forget();
        refusedWith(-1);
        m.put(0, 0);
        refusedWith(0);
        m.pivot(0, 0, 0);
        refusedWith(-3);
        m.heir(0, 0);
        refusedWith(0);
        m.turn(0);
        refusedWith(-2);
        m.move(0, 1);
        refusedWith(0);
        m.undo();
        refusedWith(0);
        m.undo();
        refusedWith(-3);
        m.thing(0, 0, 0);
        refusedWith(-1);
        m.candle(0);
        refusedWith(0);
        m.terms(9, 9);
        refusedWith(-1);
        m.row();
        refusedWith(0);
        m.law();
        refusedWith(-6);
        m.force(-1);
        refusedWith(0);
        m.orders();
        refusedWith(-6);
        m.telling(0, 0, 0);
        refusedWith(0);
        m.hint(1, 0);
        refusedWith(-2);
        m.draughts(0, 0);
        refusedWith(0);
        m.back(0);
        refusedWith(-2);
        m.image(0);
        refusedWith(0);
        m.image(9);
        refusedWith(-1);
        m.back(0);
        refusedWith(0);
        m.force(0);
        refusedWith(-2);
        m.draughts(-1, 0);
        refusedWith(-1);
    }

    public static void main(String[] args) {
        newObject();
        put();
        at();
        pivot();
        of();
        turn();
        heir();
        move();
        undo();
        thing();
        candle();
        terms();
        feed();
        end();
        row();
        dust();
        law();
        orders();
        fault();
        stopped();
        force();
        ray();
        glance();
        views();
        pair();
        claim();
        owner();
        estate();
        lit();
        stand();
        telling();
        turned();
        hint();
        stranger();
        forget();
        reveal();
        hide();
        hides();
        peace();
        quarrel();
        draughts();
        drawn();
        image();
        back();
        count();
        status();
        finish("all promises hold");
    }
}
