import java.lang.management.ManagementFactory;

/** The room of a run: the calls that answer make nothing anew, however dear they are. */
public final class RoomTest {
    private static final int CALLS = 512;

    private static long madeBytes() {
        com.sun.management.ThreadMXBean bean = (com.sun.management.ThreadMXBean) ManagementFactory.getThreadMXBean();
        return bean.getThreadAllocatedBytes(Thread.currentThread().getId());
    }

    private static Tilehold maker() {
        Tilehold maker = new Tilehold();
        for (int bits = 0; bits < 8; bits++) {
            maker.addTile(bits & 1, bits >> 1 & 1, bits >> 2 & 1, bits & 1, 1 + bits);
        }
        return maker;
    }

    private static long dearCalls(Tilehold maker) {
        long sum = 0;
        for (int call = 0; call < CALLS; call++) {
            switch (call % 8) {
                case 0:
                    sum += maker.setSize(6, 6);
                    break;
                case 1:
                    sum += maker.setMost(call / 8 % 8, 4);
                    break;
                case 2:
                    sum += maker.fill(200);
                    break;
                case 3:
                    sum += maker.chunks() < 30 ? maker.visit(call % 3 - 1, call % 5 - 2) : maker.forget();
                    break;
                case 4:
                    sum += maker.isSound() ? 1 : 0;
                    break;
                case 5:
                    sum += maker.setSize(2, 2);
                    break;
                case 6:
                    sum += maker.ways();
                    break;
                default:
                    sum += maker.optionsAnew(3);
                    break;
            }
        }
        return sum;
    }

    public static void main(String[] arguments) {
        Check.same("the same calls answer the same", dearCalls(maker()), dearCalls(maker()));
        long atFirst = madeBytes();
        Tilehold maker = maker();
        long afterMaking = madeBytes();
        dearCalls(maker);
        long afterCalls = madeBytes();
        Check.same("a new object takes less than 64 KiB", afterMaking - atFirst < 65536, true);
        Check.same("512 calls take less than 4 KiB", afterCalls - afterMaking < 4096, true);
        Check.end();
    }
}
