import com.sun.management.ThreadMXBean;
import java.lang.management.ManagementFactory;

/** All calls of one run live in one room: what 512 dear calls make is counted, in bytes. */
public final class RoomTest extends Due {
    /** A PROOF of 300 SEQUENTS, long rows to the left, many SMALL HEAPS. */
    private static final String[] DEAR = {
        "ls(b,e)*ls(c,e)*ls(b,0)*ls(e,0)*ls(a,c)*e!=b|-ls(d,b)*ls(a,d)*tree(b)*e!=e*d=a",
        "ls(b,a)*ls(a,0)*ls(a,0)*ls(e,b)*ls(c,b)*a!=0|-ls(c,d)*ls(e,d)*ls(d,e)*ls(a,e)*tree(d)*c=b*0!=b*d!=e",
        "tree(a)*tree(b)*tree(c)*tree(d)*tree(e)|-tree(a)*tree(b)*ls(c,0)*tree(d)*tree(e)",
        "ls(a,b)*ls(b,c)*ls(c,d)*ls(d,e)*ls(e,0)|-ls(a,0)"};
    /** 600,000 objects of 16 bytes at least would be far more than this. */
    private static final long MOST_BYTES = 1_000_000;
    private static final int CALLS = 512;

    public static void main(String[] args) {
        run();
        ThreadMXBean counter = (ThreadMXBean) ManagementFactory.getThreadMXBean();
        long thread = Thread.currentThread().getId();
        long before = counter.getThreadAllocatedBytes(thread);
        int calls = run();
        long made = counter.getThreadAllocatedBytes(thread) - before;
        dueText("calls", "" + (calls >= CALLS), "true");
        dueText("the room of " + made + " bytes is small", "" + (made < MOST_BYTES), "true");
        end();
    }

    /** Each text is told, asked for all that is dear, and turned, again and again. */
    private static int run() {
        HeapJudge judge = new HeapJudge();
        int calls = 0;
        for (int i = 0; calls < CALLS; i++) {
            String text = DEAR[i % DEAR.length];
            put(judge, text);
            judge.text(text.length());
            calls += (text.length() + 19) / 20 + 1;
            for (int turned = 0; turned < 2; turned++) {
                judge.proof(0);
                judge.over();
                judge.heaps(0);
                judge.print();
                judge.turn();
                calls += 5;
            }
        }
        return calls;
    }
}
