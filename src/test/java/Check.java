import java.nio.charset.StandardCharsets;
import java.util.TreeMap;

/** Counts what is as due and prints what is not; feeds texts to an object. */
final class Check {
    static int passed, failed;
    static final TreeMap<Integer, Integer> byPromise = new TreeMap<>();

    private Check() {
    }

    static void due(int promise, String what, long got, long want) {
        byPromise.merge(promise, 1, Integer::sum);
        if (got == want) {
            passed++;
            return;
        }
        failed++;
        if (failed <= 50) {
            System.out.println("promise " + promise + ": " + what + " answered " + got + ", due is " + want);
        }
    }

    static void dueAll(int promise, String what, int[] got, int... want) {
        due(promise, what + ", how many", got.length, want.length);
        for (int i = 0; i < Math.min(got.length, want.length); i++) {
            due(promise, what + " [" + i + "]", got[i], want[i]);
        }
    }

    static void feed(OldNews x, String text) {
        byte[] bytes = text.getBytes(StandardCharsets.ISO_8859_1);
        for (int i = 0; i < bytes.length; i += 8) {
            int n = Math.min(8, bytes.length - i);
            long w = 0;
            for (int j = 0; j < n; j++) {
                w = w << 8 | bytes[i + j] & 255;
            }
            x.feed(w, n);
        }
    }

    static int land(OldNews x, String text) {
        feed(x, text);
        return x.land();
    }

    static OldNews on(String text) {
        OldNews x = new OldNews();
        if (land(x, text) < 0) {
            throw new IllegalStateException("a test's own text has a fault: " + text);
        }
        return x;
    }

    static int[] traceOf(OldNews x) {
        int n = 0;
        while (x.trace(n) != OldNews.NONE) {
            n++;
        }
        int[] trace = new int[n];
        for (int i = 0; i < n; i++) {
            trace[i] = x.trace(i);
        }
        return trace;
    }
}
