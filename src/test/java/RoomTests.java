import com.sun.management.ThreadMXBean;
import java.lang.management.ManagementFactory;

/** No call makes an object: all calls of a run share one room. */
public final class RoomTests {
    private static final Checks C = new Checks("RoomTests");
    private static final ThreadMXBean THREADS = (ThreadMXBean) ManagementFactory.getThreadMXBean();
    private static long sum;

    public static void main(String[] args) {
        allCalls(new AcrosticLines());
        AcrosticLines a = new AcrosticLines();
        long before = THREADS.getCurrentThreadAllocatedBytes();
        int calls = allCalls(a);
        long made = THREADS.getCurrentThreadAllocatedBytes() - before;
        C.holds(calls + " calls made " + made + " bytes of objects, sum " + sum, made < 2000);
        before = THREADS.getCurrentThreadAllocatedBytes();
        for (int i = 0; i < 1000; i++) {
            sum += new AcrosticLines().count(1);
        }
        made = THREADS.getCurrentThreadAllocatedBytes() - before;
        C.holds("a new object takes " + made / 1000 + " bytes", made / 1000 < 8000);
        C.end();
    }

    private static int allCalls(AcrosticLines a) {
        int calls = 0;
        String text = "verse 3 1 2 1 2 1 2;word 0 1 2 1;word 3 1 2 1 2;word 4 1 2 1 2 1;word 5 1 2 1 2 1 2;put 0 0;";
        for (int i = 0; i < text.length(); i++) {
            sum += a.type(text.charAt(i));
        }
        sum += a.read();
        sum += a.word(1, 3, 212) + a.word(2, 4, 1111) + a.word(2, 5, 22222) + a.word(4, 6, 112233);
        calls += text.length() + 5;
        for (int i = 0; i < 12; i++) {
            sum += a.puts(i % 6, i % 8) + a.swaps(0, 5) + a.takes(5) + a.undo() + a.of(0, 1) + a.about(0, 1);
            sum += a.fits(1, 1) + a.ways() + a.first(2) + a.cheap(2) + a.more() + a.needs(0) + a.held() + a.forms();
            sum += a.rows(3, 0) + a.note(3, 0, 0) + a.mark(0, 3, 0, 3) + a.is() + a.look() + a.kinds(0) + a.ask(0);
            sum += a.poets(-1) + a.luck() + a.evenings(i, 60) + a.part(1) + a.image(1) + a.from(1) + a.status(0);
            sum += a.count(5) + a.digest() + a.form(i % 6);
            calls += 31;
        }
        sum += a.forget(0) + a.clear() + a.verse(0, 3, 0);
        return calls + 3;
    }
}
