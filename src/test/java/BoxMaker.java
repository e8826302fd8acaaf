import java.security.MessageDigest;
import java.security.NoSuchAlgorithmException;
import java.util.zip.CRC32;

/** Puts boxes together, right ones and wrong ones, with the library's CRC32 and SHA-256. */
final class BoxMaker {
    private BoxMaker() {
    }

    static byte[] crc32(byte[] b) {
        CRC32 crc = new CRC32();
        crc.update(b);
        return Maker.number(crc.getValue(), 4);
    }

    /** From the highest power down, as on paper; the turned polynomial is so turned back. */
    static byte[] crc64(byte[] b) {
        long polynomial = Long.reverse(0xC96C5795D7870F42L);
        long rest = -1;
        for (byte v : b) {
            rest ^= Long.reverse(v & 255L);
            for (int k = 0; k < 8; k++) {
                rest = rest < 0 ? rest << 1 ^ polynomial : rest << 1;
            }
        }
        return Maker.number(~Long.reverse(rest), 8);
    }

    static byte[] sha256(byte[] b) {
        try {
            return MessageDigest.getInstance("SHA-256").digest(b);
        } catch (NoSuchAlgorithmException e) {
            throw new IllegalStateException(e);
        }
    }

    static byte[] check(int kind, byte[] b) {
        return kind == 1 ? crc32(b) : kind == 4 ? crc64(b) : kind == 10 ? sha256(b) : new byte[0];
    }

    static byte[] start(int kind) {
        byte[] flags = Maker.row(0, kind);
        return Maker.join(Maker.row(253, 55, 122, 88, 90, 0), flags, crc32(flags));
    }

    /** A head of what is told behind its size, as small as may be. */
    static byte[] head(int... told) {
        return headOf((1 + told.length + 3) / 4 + 1, told);
    }

    /** A head of so many fours. */
    static byte[] headOf(int fours, int... told) {
        byte[] all = Maker.join(Maker.row(fours - 1), Maker.row(told));
        byte[] filled = Maker.join(all, new byte[Math.max(0, 4 * fours - 4 - all.length)]);
        return Maker.join(filled, crc32(filled));
    }

    /** The head of a block with the chunks alone. */
    static byte[] head() {
        return head(0, 33, 1, 0);
    }

    static byte[] block(int kind, byte[] head, byte[] chunks, byte[] bytes) {
        return Maker.join(head, chunks, zeros(head.length + chunks.length), check(kind, bytes));
    }

    /** A block with a plain chunk. */
    static byte[] plainBlock(int kind, byte[] bytes) {
        return block(kind, head(), plainChunks(bytes), bytes);
    }

    static byte[] plainChunks(byte[] bytes) {
        return Maker.join(Maker.plainChunk(1, bytes), Maker.row(0));
    }

    static byte[] zeros(int size) {
        return new byte[3 - (size + 3) % 4];
    }

    static byte[] v(long number) {
        byte[] b = new byte[9];
        int n = 0;
        long rest = number;
        do {
            b[n] = (byte) (rest % 128 + (rest > 127 ? 128 : 0));
            rest /= 128;
            n++;
        } while (rest > 0);
        return Maker.cut(b, n);
    }

    /** Of each block its size without the 0s, and its bytes. */
    static byte[] index(int... sizes) {
        byte[] all = Maker.join(Maker.row(0), v(sizes.length / 2));
        for (int size : sizes) {
            all = Maker.join(all, v(size));
        }
        return closed(all);
    }

    /** An INDEX of these bytes, with its 0s and its CRC32. */
    static byte[] closed(byte[] told) {
        byte[] all = Maker.join(told, zeros(told.length));
        return Maker.join(all, crc32(all));
    }

    static byte[] foot(int indexSize, int first, int kind) {
        byte[] six = Maker.join(Maker.number(indexSize / 4 - 1, 4), Maker.row(first, kind));
        return Maker.join(crc32(six), six, Maker.row(89, 90));
    }

    static byte[] box(int kind, byte[] blocks, byte[] index) {
        return Maker.join(start(kind), blocks, index, foot(index.length, 0, kind));
    }

    /** A box with one plain block. */
    static byte[] plainBox(int kind, byte[] bytes) {
        return boxOf(kind, head(), plainChunks(bytes), bytes);
    }

    static byte[] boxOf(int kind, byte[] head, byte[] chunks, byte[] bytes) {
        int size = head.length + chunks.length + check(kind, bytes).length;
        return box(kind, block(kind, head, chunks, bytes), index(size, bytes.length));
    }
}
