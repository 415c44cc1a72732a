import com.sun.management.ThreadMXBean;
import java.lang.management.ManagementFactory;

/** What an object takes when it is made, and that no call makes anything more. */
public final class RoomTest {
    private static final String YEAR = "kind ka rests 1 of 4;kind kb rests 0 of 6;tool ta is ka worn 5;tool tb is ka worn 9;"
            + "tool tc is kb worn 2;hand ha;hand hb;knows ha ta 6;knows hb tc 8;job ja by 0 does ka 4 kb 3 ka 2;"
            + "job jb by 0 does kb 5 ka 1;job jc by 0 does kb 6 kb 2 ka 3;job jd by 0 does ka 9;job je by 0 does kb 9 kb 1;"
            + "job jf by 0 does ka 9 ka 9;serves ka for kb at 4;may rest=0 or [late>2 and frost=0] and used<3;"
            + "wears hours+if(knows<3,4,0)+worn/9;breaks 25;smith 4 of 7;fine 6;frost 40;";
    private static final ThreadMXBean BEAN = (ThreadMXBean) ManagementFactory.getThreadMXBean();

    private RoomTest() {
    }

    public static void main(String[] args) {
        run();
        long calls = run();
        long before = made();
        for (int i = 0; i < 100; i++) {
            new ToolSaints();
        }
        long object = (made() - before) / 100;
        System.out.println("an object takes " + object + " bytes, its calls " + calls);
        // 7.3 million elements hold 512 objects, at 4 bytes an element.
        if (object > 4L * 7_300_000 / 512 || calls > 4096) {
            System.out.println("that is too much");
            System.exit(1);
        }
    }

    private static long made() {
        return BEAN.getThreadAllocatedBytes(Thread.currentThread().getId());
    }

    private static long run() {
        ToolSaints x = new ToolSaints();
        byte[] text = YEAR.getBytes(java.nio.charset.StandardCharsets.ISO_8859_1);
        long before = made();
        int sum = 0;
        for (int i = 0; i < 8; i++) {
            for (int at = 0; at < text.length; at += 20) {
                x.feed(Tape.numberAt(text, at), Tape.numberAt(text, at + 4), Tape.numberAt(text, at + 8),
                        Tape.numberAt(text, at + 12), Tape.numberAt(text, at + 16));
            }
            x.end(text.length);
            sum += x.year() + x.later(100, 0) + x.done(1) + x.late(100) + x.order(30, 0) + x.moved(60, 0);
            sum += x.makeshift(0, 1, 0) + x.hangs(5, 60) + x.guard(5, 30) + x.loan(0, 0) + x.chance(3) + x.days(5);
            x.hold(0, 1);
            x.swap(0, 1);
            x.due(0, 5);
            x.undo();
            sum += x.image() + x.octet(3) + x.has(8) + x.kept(0, 0) + x.job(0, 3) + x.letter(0, 0, 0);
            x.feed(0, 0, 0, 0, 0);
            x.end(2);
            sum += x.shavings();
            x.feed(0, 0, 0, 0, 0);
            x.on();
        }
        long after = made();
        return sum == Integer.MIN_VALUE ? 0 : after - before;
    }
}
