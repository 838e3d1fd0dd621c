import java.lang.management.ManagementFactory;

/** All calls of one run live in one room: what an object and 512 calls of it take must stay far below it. */
public final class RoomTest {
    /** 7.3 million fields and elements are allowed; most elements are ints, four bytes each. */
    private static final long MOST_BYTES = 2_000_000;

    public static void main(String[] args) {
        com.sun.management.ThreadMXBean beans = (com.sun.management.ThreadMXBean) ManagementFactory.getThreadMXBean();
        String[] texts = {"2 2 2 2", "5 5", "9 2", "(\\x.x x x)(\\x.x x x)", "y=\\f.(\\x.f (x x))(\\x.f (x x)); y (\\a b.b)",
            "y=\\f.(\\x.f (x x))(\\x.f (x x)); y (\\a b.b a)", "(\\b.b b)((\\a. \\y.a a y (\\x.x)) 2)"};
        use(new FanNet(), texts[0], 0);
        long most = 0;
        for (String text : texts) {
            for (int way = 0; way < 3; way++) {
                long before = beans.getThreadAllocatedBytes(Thread.currentThread().getId());
                use(new FanNet(), text, way);
                long bytes = beans.getThreadAllocatedBytes(Thread.currentThread().getId()) - before;
                most = Math.max(most, bytes);
                Due.is(text + " by " + way + " keeps to its room", bytes < MOST_BYTES, true);
            }
        }
        long before = beans.getThreadAllocatedBytes(Thread.currentThread().getId());
        new FanNet();
        long one = beans.getThreadAllocatedBytes(Thread.currentThread().getId()) - before;
        Due.is("a new object keeps to its room", one < 60_000, true);
        System.out.println("a new object: " + one + " bytes; with 512 calls at most " + most);
        Due.end();
    }

    private static void use(FanNet x, String text, int way) {
        Due.tell(x, text);
        for (int i = 0; i < 500; i++) {
            switch (i % 10) {
                case 0:
                    x.run(way, i < 200 ? 7 : 60);
                    break;
                case 1:
                    x.count(10);
                    break;
                case 2:
                    x.say(i / 10 % 3);
                    break;
                case 3:
                    x.plain(i % 201);
                    break;
                case 4:
                    x.trial(way, i / 10 % 4);
                    break;
                case 5:
                    x.count(12);
                    break;
                case 6:
                    x.wanted(0);
                    break;
                case 7:
                    x.feed(i, i, i, i, i);
                    break;
                case 8:
                    Due.of(() -> x.part(0, 399));
                    break;
                default:
                    Due.of(() -> x.same(0, 1) ? 1 : 0);
                    break;
            }
        }
    }
}
