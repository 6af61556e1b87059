import java.lang.management.ManagementFactory;

/** The room of a run: what 512 calls make, the dearest ones too. */
public final class RoomTest {
    private static final Due DUE = new Due("RoomTest");

    public static void main(String[] args) {
        // The first round loads classes; the second one is measured.
        run(new LabelsOfLines());
        LabelsOfLines x = new LabelsOfLines();
        long before = allocated();
        run(x);
        long made = allocated() - before;
        DUE.is("bytes beyond 100000 that 512 calls made", Math.max(0, made - 100000), 0);
        DUE.end();
    }

    private static long allocated() {
        return ((com.sun.management.ThreadMXBean) ManagementFactory.getThreadMXBean()).getCurrentThreadAllocatedBytes();
    }

    private static void run(LabelsOfLines x) {
        int calls = 0;
        calls += tell(x, "n7;l001;l012;l023;l034;l045;l056;l460;l103;f63;v099;");
        for (int list = 0; list < 3; list++) {
            x.list(list, 40);
            calls++;
        }
        while (calls < 470) {
            x.ways(calls % 6, 3, -1, 0);
            x.odds(calls % 6, 3, 1);
            x.magic(6, -1, 0);
            x.settled();
            x.orders(-1, 0);
            x.spread();
            x.rank(0);
            x.parts(-1);
            x.sides(-1);
            x.written(-1);
            x.lots(1, 50, calls, 1);
            x.label(0, 1);
            x.list(0, 40);
            x.lays(0, 33);
            x.judge(0);
            x.undo();
            x.image();
            x.on();
            x.count(4);
            x.ranked(3);
            calls += 20;
        }
        tell(x, "l001;l001;l001;");
    }

    private static int tell(LabelsOfLines x, String text) {
        for (int i = 0; i < text.length(); i++) {
            x.letter(text.charAt(i));
        }
        x.text();
        return text.length() + 1;
    }
}
