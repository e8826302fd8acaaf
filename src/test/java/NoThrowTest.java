import java.util.Random;

/** Any calls with any arguments: nothing is thrown but by out(), and there only where none such is. */
public final class NoThrowTest {
    private static final Due DUE = new Due("NoThrowTest");
    private static final int[] EDGES = {
        0, 1, 2, 3, 4, 5, 7, 10, 12, 19, 20, 21, 40, 128, 256, 257, 512, 1499, 1500, 1501, 2000, 3000, 4095, 4096,
        4097, -1, -2, -10, Integer.MAX_VALUE, Integer.MIN_VALUE, 0x7ffffff0, 0x40000000};

    public static void main(String[] args) {
        for (int seed = 0; seed < 400; seed++) {
            run(new Random(seed), seed);
        }
        DUE.finish();
    }

    private static int any(Random r) {
        return r.nextInt(4) == 0 ? r.nextInt() : EDGES[r.nextInt(EDGES.length)];
    }

    private static void run(Random r, int seed) {
        LzmaChains x = new LzmaChains(r.nextInt(4));
        int calls = 0;
        String thrown = "";
        String due = "";
        while (calls < 512 && thrown.equals(due)) {
            calls++;
            int i = any(r);
            int what = r.nextInt(22);
            due = what == 0 && (i < 0 || i >= x.count(1)) ? "java.lang.ArrayIndexOutOfBoundsException" : "";
            try {
                call(x, r, what, i);
                thrown = "";
            } catch (RuntimeException e) {
                thrown = e.getClass().getName();
            }
        }
        DUE.same("run " + seed + ", call " + calls, thrown, due);
    }

    private static void call(LzmaChains x, Random r, int what, int i) {
        switch (what) {
            case 0: x.out(i); break;
            case 1: x.property(r.nextInt(10) - 1, any(r)); break;
            case 2: x.filter(r.nextInt(4) - 1, any(r)); break;
            case 3: x.end(i); break;
            case 4: x.octet(i); break;
            case 5: x.pack(r.nextInt(4)); break;
            case 6: x.open(i); break;
            case 7: x.open(1 << 20); break;
            case 8: x.rule(); break;
            case 9: x.pass(); break;
            case 10: x.step(i, any(r)); break;
            case 11: x.state(); break;
            case 12: x.block(i, any(r)); break;
            case 13: x.check(any(r), i); break;
            case 14: x.turn(any(r), any(r), r.nextBoolean()); break;
            case 15: x.count(i); break;
            case 16: x.feed(0, 0, 0, 0, i); break;
            case 17: spoil(x, r); break;
            default: x.feed(any(r), any(r), r.nextInt(), any(r), any(r)); break;
        }
    }

    /** What was packed is opened with a byte of it changed, or cut off. */
    private static void spoil(LzmaChains x, Random r) {
        x.pack(r.nextInt(3));
        int n = Math.min(x.count(1), 1500);
        int at = n == 0 ? 0 : r.nextInt(n);
        boolean cut = r.nextInt(4) == 0;
        for (int i = 0; i < n && !(cut && i == at); i++) {
            x.octet(i == at ? r.nextInt(256) : x.out(i));
        }
        x.open(Integer.MAX_VALUE);
    }
}
