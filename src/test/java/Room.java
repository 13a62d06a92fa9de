import java.lang.management.ManagementFactory;
import java.util.function.ToIntFunction;

/**
 * All calls of one run live in one room: what an object and 511 calls of one kind make is measured in bytes.
 * Only law() and the first two images may make something, the object itself aside.
 */
public final class Room extends Due {
    // The machine itself makes some bytes now and then: the least of three rounds counts.
    private static final long NEXT_TO_NOTHING = 4_000;
    private static final long MOST_BYTES_OF_AN_OBJECT = 60_000;
    private static final long MOST_BYTES_OF_A_RUN = 700_000;
    private static final com.sun.management.ThreadMXBean THREADS = (com.sun.management.ThreadMXBean) ManagementFactory.getThreadMXBean();

    private static long bytes() {
        return THREADS.getCurrentThreadAllocatedBytes();
    }

    private static void full(MirrorHeirs hall) {
        for (int cell = 0; cell < 32; cell++) {
            hall.put(cell * 2 + 1, 1 + cell % 5);
        }
        for (int i = 0; i < 12; i++) {
            hall.pivot(i * 2 + 1, i % 6, i);
            hall.heir(i * 4, i);
            hall.thing(i * 5, 1 + i, i % 10);
            hall.candle(i * 3);
            hall.telling(i, i + 1, 1);
            hall.hint(0, 1);
        }
        hall.terms(0, 6);
        hall.image(0);
        write(hall, "fogs if glance=6 and lit=0;claims age+lit*glance;bars if heir=thing");
        hall.law();
        hall.force(0);
    }

    private static void run(String what, long most, ToIntFunction<MirrorHeirs> call) {
        begin("what 511 calls make");
        full(m);
        long made = Long.MAX_VALUE;
        for (int round = 0; round < 3; round++) {
            long ahead = bytes();
            for (int i = 0; i < 511; i++) {
                call.applyAsInt(m);
            }
            made = Math.min(made, bytes() - ahead);
        }
        due(what + " made " + made + " bytes, more than " + most, made > most ? 1 : 0, 0);
    }

    public static void main(String[] args) {
        new MirrorHeirs();
        long ahead = bytes();
        new MirrorHeirs();
        long made = bytes() - ahead;
        begin("a new object");
        due("it has " + made + " bytes", made > MOST_BYTES_OF_AN_OBJECT ? 1 : 0, 0);
        run("stand", NEXT_TO_NOTHING, h -> h.stand(4, 0));
        run("turned", NEXT_TO_NOTHING, h -> h.turned(2));
        run("reveal", NEXT_TO_NOTHING, h -> h.reveal(0, 0, 6, 0));
        run("hide", NEXT_TO_NOTHING, h -> h.hide(0, 0, -1));
        run("hides", NEXT_TO_NOTHING, h -> h.hides(5));
        run("stranger", NEXT_TO_NOTHING, h -> h.stranger(-1));
        run("peace", NEXT_TO_NOTHING, h -> h.terms(1, 1) + h.peace(2));
        run("quarrel", NEXT_TO_NOTHING, h -> h.terms(1, 1) + h.quarrel(0));
        run("draughts", NEXT_TO_NOTHING, h -> h.draughts(7, 48));
        run("glance, ray, views, lit", NEXT_TO_NOTHING, h -> h.glance(0, 63) + h.ray(0, 1, -1) + h.views(0) + h.lit(-1) + h.lit(9));
        run("claim, owner, estate, pair", NEXT_TO_NOTHING, h -> h.claim(0, 0, 2) + h.owner(0, 1) + h.estate(0) + h.pair(0, 1));
        run("put, turn, move, undo", NEXT_TO_NOTHING, h -> h.put(63, 0) + h.turn(0) + h.move(0, 62) + h.undo());
        run("image, back", 20_000, h -> h.image(0) + h.image(1) + h.back(0));
        run("row", NEXT_TO_NOTHING, h -> h.feed(0, 0, 0, 0, 0) + h.row());
        // "wait if estate 0>0 "
        run("orders", NEXT_TO_NOTHING, h -> h.feed(0x77616974, 0x20696620, 0x65737461, 0x74652030, 0x3e302020) + h.orders());
        run("orders with a fault", NEXT_TO_NOTHING, h -> h.feed(0x77616974, 0x20696620, 0x65737461, 0x74652030, 0x3e303e30) + h.orders());
        run("law with a fault", NEXT_TO_NOTHING, h -> h.feed(0x77616974, 0x20696620, 0x65737461, 0x74652030, 0x3e303e30) + h.law());
        run("law", MOST_BYTES_OF_A_RUN, h -> h.feed(0x636c6169, 0x6d732078, 0x2b792b31, 0x2b782b79, 0x2b312b32) + h.law() + h.back(0));
        finish("the room is kept small");
    }
}
