import java.lang.management.ManagementFactory;

/** All calls of a run share one room: 512 calls of the dearest kinds must make little. */
public final class RoomTest {
    private static final int CALLS = 512;
    private static final long MOST_BYTES = 2_000_000;

    public static void main(String[] args) {
        com.sun.management.ThreadMXBean threads =
                (com.sun.management.ThreadMXBean) ManagementFactory.getThreadMXBean();
        long id = Thread.currentThread().getId();
        SpanCopier x = Check.with("chunk 1;delay 9;wait 60;tries 9;policy now;has a;act make b;", 240);
        int[][] sentence = TextMaker.numbers("data or eof and not(nak or ack)").toArray(new int[0][]);
        long before = threads.getThreadAllocatedBytes(id);
        for (int i = 0; i < CALLS; i += 16) {
            x.ticks(7);
            x.odds(20, i);
            x.over();
            x.drawn(9, i);
            x.twice(0);
            x.late(0, 3);
            x.lose(0);
            x.image(i & 1);
            x.undo();
            x.restore(i & 1);
            x.said(-1);
            x.crash();
            x.prompt();
            x.feed(sentence[0][0], sentence[0][1], sentence[0][2], sentence[0][3], sentence[0][4]);
            x.sentence();
            x.order();
            x.feed(1, 2, 3, 4, 5);
            x.file();
        }
        long made = threads.getThreadAllocatedBytes(id) - before;
        System.out.println(made + " bytes made in " + CALLS + " calls");
        if (made > MOST_BYTES) {
            System.exit(1);
        }
        Check.end();
    }
}
