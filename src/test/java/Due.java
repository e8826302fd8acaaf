import java.util.zip.CRC32;

/** Counts the answers that are not the ones due, and puts bytes into objects and takes them out. */
final class Due {
    private final String name;
    private String sentence = "";
    private int asked;
    private int wrong;

    Due(String name) {
        this.name = name;
    }

    /** The document's words that are asked for from here on. */
    void sentence(String words) {
        sentence = "\"" + words + "\": ";
    }

    void same(String call, long got, long want) {
        same(call, Long.toString(got), Long.toString(want));
    }

    void same(String call, String got, String want) {
        asked++;
        if (!got.equals(want)) {
            wrong++;
            System.out.println(name + ": " + sentence + call + " answered " + got + ", due is " + want);
        }
    }

    /** That out(i) throws what the document names, and nothing else. */
    void throwsAt(String call, LzmaChains x, int i) {
        String got = "no exception";
        try {
            x.out(i);
        } catch (RuntimeException e) {
            got = e.getClass().getName();
        }
        same(call, got, "java.lang.ArrayIndexOutOfBoundsException");
    }

    void finish() {
        System.out.println(name + ": " + asked + " answers, " + wrong + " of them wrong");
        if (wrong != 0) {
            System.exit(1);
        }
    }

    static LzmaChains fed(int form, byte[] bytes) {
        LzmaChains x = new LzmaChains(form);
        put(x, bytes);
        return x;
    }

    static LzmaChains fed(int form, String text) {
        return fed(form, text(text));
    }

    /** So many equal bytes. */
    static byte[] run(int size, int b) {
        byte[] bytes = new byte[size];
        java.util.Arrays.fill(bytes, (byte) b);
        return bytes;
    }

    /** Bytes without a chain, which no way of choosing makes smaller. */
    static byte[] wild(int size) {
        byte[] bytes = new byte[size];
        new java.util.Random(7).nextBytes(bytes);
        return bytes;
    }

    static byte[] bytes(String hex) {
        byte[] b = new byte[hex.length() / 2];
        for (int i = 0; i < b.length; i++) {
            b[i] = (byte) Integer.parseInt(hex.substring(2 * i, 2 * i + 2), 16);
        }
        return b;
    }

    static byte[] text(String text) {
        byte[] b = new byte[text.length()];
        for (int i = 0; i < b.length; i++) {
            b[i] = (byte) text.charAt(i);
        }
        return b;
    }

    /** Twenty at a time, so that an object's 512 calls last. */
    static void put(LzmaChains x, byte[] b) {
        int i = 0;
        for (; i + 20 <= b.length; i += 20) {
            x.feed(word(b, i), word(b, i + 4), word(b, i + 8), word(b, i + 12), word(b, i + 16));
        }
        for (; i < b.length; i++) {
            x.octet(b[i]);
        }
    }

    private static int word(byte[] b, int i) {
        return b[i] << 24 | (b[i + 1] & 255) << 16 | (b[i + 2] & 255) << 8 | b[i + 3] & 255;
    }

    static byte[] out(LzmaChains x) {
        byte[] b = new byte[x.count(1)];
        for (int i = 0; i < b.length; i++) {
            b[i] = (byte) x.out(i);
        }
        return b;
    }

    static String hex(byte[] b) {
        StringBuilder s = new StringBuilder();
        for (byte v : b) {
            s.append(String.format("%02x", v & 255));
        }
        return s.toString();
    }

    static String outHex(LzmaChains x) {
        return hex(out(x));
    }

    /** OUT as hex if it is short, else how many bytes and their CRC32, so that an object's 512 calls last. */
    static String brief(LzmaChains x) {
        return x.count(1) <= 40 ? outHex(x) : x.count(1) + ":" + Integer.toHexString(x.check(1, 0));
    }

    static String brief(byte[] b) {
        CRC32 crc = new CRC32();
        crc.update(b);
        return b.length <= 40 ? hex(b) : b.length + ":" + Integer.toHexString((int) crc.getValue());
    }

    /** All choices as kind,place,length,far; with a blank between two. */
    static String steps(LzmaChains x) {
        return steps(x, 0, x.step(-1, 0));
    }

    static String steps(LzmaChains x, int from, int to) {
        StringBuilder s = new StringBuilder();
        for (int i = Math.max(0, from); i < to; i++) {
            s.append(s.length() == 0 ? "" : " ").append(x.step(i, 0)).append(',').append(x.step(i, 1));
            s.append(',').append(x.step(i, 2)).append(',').append(x.step(i, 3));
        }
        return s.toString();
    }

    static String blocks(LzmaChains x) {
        StringBuilder s = new StringBuilder();
        int n = Math.min(10, x.block(-1, 0));
        for (int i = 0; i < n; i++) {
            s.append(i == 0 ? "" : " ");
            for (int k = 0; k < 5; k++) {
                s.append(k == 0 ? "" : ",").append(x.block(i, k));
            }
        }
        return s.toString();
    }
}
