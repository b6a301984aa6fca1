import java.lang.management.ManagementFactory;

/** Counts what the dearest runs of 512 calls make: far less than the room of one run. */
public final class RoomTest {
    // The room is 7.3 million fields and elements; even as one byte each this is a small share of it.
    private static final long MOST_BYTES = 1_500_000;
    private static int wrong = 0;

    public static void main(String[] args) {
        runs("asks", RoomTest::asks);
        runs("rules", RoomTest::rules);
        runs("loads", RoomTest::loads);
        System.out.println(wrong == 0 ? "all runs keep to their room" : wrong + " runs do not keep to their room");
        if (wrong != 0) System.exit(1);
    }

    private static void runs(String name, Runnable run) {
        run.run();
        com.sun.management.ThreadMXBean threads = (com.sun.management.ThreadMXBean) ManagementFactory.getThreadMXBean();
        long id = Thread.currentThread().getId();
        long before = threads.getThreadAllocatedBytes(id);
        run.run();
        long made = threads.getThreadAllocatedBytes(id) - before;
        System.out.println("a run of " + name + " makes " + made + " bytes");
        if (made > MOST_BYTES) wrong++;
    }

    private static int feed(SwapChoices x, String text) {
        int calls = 0;
        for (int at = 0; at < text.length(); at += 20) {
            int[] five = new int[5];
            for (int i = 0; i < 20; i++) five[i / 4] = five[i / 4] << 8 | (at + i < text.length() ? text.charAt(at + i) : ' ');
            x.feed(five[0], five[1], five[2], five[3], five[4]);
            calls++;
        }
        return calls;
    }

    private static final String BIG = "choose 5;thing a 1;thing b 2;thing c 3;thing d 4;thing e 5;thing f 6;thing g 7;"
        + "thing h 8;thing i 9;thing j 10;";

    private static void asks() {
        SwapChoices x = new SwapChoices();
        int calls = feed(x, BIG) + 1;
        x.load(BIG.length());
        for (int i = calls; i + 8 <= 512; i += 8) {
            x.bestMode();
            x.bridge();
            x.steps(20);
            x.far(0, 200);
            x.part(0, 2);
            x.strike(i % 250, true);
            x.undo();
            x.format(i % 250);
        }
    }

    private static void rules() {
        SwapChoices x = new SwapChoices();
        String test = "a or b or c or d and a or b or c or d or";
        for (int i = 0; i < 128; i++) {
            feed(x, test);
            x.addRule(37);
            if (i > 8) x.dropRule(0);
        }
    }

    private static void loads() {
        SwapChoices x = new SwapChoices();
        StringBuilder text = new StringBuilder(BIG);
        for (int i = 0; i < 10; i++) text.append("rule not a or b and c or d and e or f and g or h and i or j and a or b;");
        text.setLength(Math.min(text.length(), 800));
        String whole = text.substring(0, text.lastIndexOf(";") + 1);
        for (int calls = 0; calls < 470; calls++) {
            calls += feed(x, whole);
            x.load(whole.length());
        }
    }
}
