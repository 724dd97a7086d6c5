import java.lang.management.ManagementFactory;

/** The room of a run: an object with all its calls, however dear they are, makes less than a run has room for. */
public final class RoomTest {
    /** With eight calls that add tiles, and two for each turn that visits, an object has 512 calls. */
    private static final int CALLS = 448;
    /** Each field and element takes a byte at least, and each of 600,000 objects takes more than 12. */
    private static final long ROOM = 7_200_000;

    private static long madeBytes() {
        com.sun.management.ThreadMXBean bean = (com.sun.management.ThreadMXBean) ManagementFactory.getThreadMXBean();
        return bean.getThreadAllocatedBytes(Thread.currentThread().getId());
    }

    private static Tilehold maker() {
        Tilehold maker = new Tilehold();
        for (int bits = 0; bits < 8; bits++) {
            maker.addTile(bits & 1, bits >> 1 & 1, bits >> 2 & 1, bits & 1, 1 + bits);
        }
        return maker;
    }

    private static long dearCalls(Tilehold maker) {
        long sum = 0;
        for (int call = 0; call < CALLS; call++) {
            switch (call % 8) {
                case 0:
                    sum += maker.setSize(6, 6);
                    break;
                case 1:
                    sum += maker.setMost(call / 8 % 8, 4);
                    break;
                case 2:
                    sum += maker.fill(200);
                    break;
                case 3:
                    sum += maker.chunks() < 30 ? maker.visit(call % 3 - 1, call % 5 - 2) : maker.forget();
                    break;
                case 4:
                    sum += maker.isSound() ? 1 : 0;
                    break;
                case 5:
                    sum += maker.setSize(2, 2);
                    break;
                case 6:
                    sum += maker.ways();
                    break;
                default:
                    sum += maker.optionsAnew(3);
                    break;
            }
        }
        return sum;
    }

    public static void main(String[] arguments) {
        Check.same("the same calls answer the same", dearCalls(maker()), dearCalls(maker()));
        long atFirst = madeBytes();
        Tilehold maker = maker();
        dearCalls(maker);
        Check.same("an object and its calls have room", madeBytes() - atFirst < ROOM, true);
        Check.end();
    }
}
