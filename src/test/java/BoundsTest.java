import java.io.IOException;

/**
 * Each sentence of the document's 'Terms' and promises that names a boundary case, with the calls that it speaks
 * of; and that none of its sentences is left out.
 */
public final class BoundsTest {
    private static final int MOST_CALLS = 512;

    private BoundsTest() {
    }

    public static void main(String[] args) throws IOException {
        Sentences.read();
        TermBounds.all();
        SheetBounds.all();
        MachineBounds.all();
        WorthBounds.all();
        PlayBounds.all();
        ToldBounds.all();
        Sentences.end();
        theLastCall();
        Check.end("BoundsTest");
    }

    /** An object answers all of its 512 calls. */
    private static void theLastCall() {
        TinkerTrials x = new TinkerTrials();
        x.machine(1, 1);
        x.pay(0, 0, 50);
        for (int k = 3; k < MOST_CALLS; k++) {
            Check.due("call " + k, x.run(500), 25000);
        }
        Check.due("call 512", x.paid(), (MOST_CALLS - 3) * 25000L);
    }
}
