import java.io.ByteArrayOutputStream;
import java.math.BigInteger;
import java.util.ArrayList;
import java.util.Arrays;
import java.util.HashMap;

/**
 * Writes any choices as bits, right ones and wrong ones, as the document tells them and not as LzmaChains
 * does it: LOW is one great number here, so that no byte is held and none waits, and each CHANCE has a name.
 */
final class Maker {
    static final long MARK = 1L << 32;
    private static final int[] BEHIND_LITERAL = {0, 0, 0, 0, 1, 2, 3, 4, 5, 6, 4, 5};

    private final HashMap<String, Integer> chances = new HashMap<>();
    private final ArrayList<Integer> made = new ArrayList<>();
    private final long[] backs = {1, 1, 1, 1};
    private int lc = 3;
    private int lp = 0;
    private int pb = 2;
    private int state;
    private int begun;
    private BigInteger low = BigInteger.ZERO;
    private long range = 0xFFFFFFFFL;
    private int shifts;
    private int carries;
    private int longestCarry;

    Maker with(int newLc, int newLp, int newPb) {
        lc = newLc;
        lp = newLp;
        pb = newPb;
        return this;
    }

    int propertyByte() {
        return (pb * 5 + lp) * 9 + lc;
    }

    int state() {
        return state;
    }

    /** How many bytes have been made. */
    int size() {
        return made.size();
    }

    /** How far back a copy may go. */
    int reach() {
        return made.size() - begun;
    }

    byte[] bytes() {
        byte[] b = new byte[made.size()];
        for (int i = 0; i < b.length; i++) {
            b[i] = (byte) (int) made.get(i);
        }
        return b;
    }

    /** How many bytes of the bits a reader has read when it knows the last choice. */
    int read() {
        return 5 + shifts;
    }

    /** How often bytes that are shifted out have become 1 more. */
    int carries() {
        return carries;
    }

    /** Over how many bytes that were 255 that went at most. */
    int longestCarry() {
        return longestCarry;
    }

    /** The bits so far, with the five SHIFTS at the end. */
    byte[] bits() {
        byte[] number = low.toByteArray();
        byte[] b = new byte[read()];
        for (int i = 0; i < Math.min(b.length, number.length); i++) {
            b[b.length - 1 - i] = number[number.length - 1 - i];
        }
        return b;
    }

    /** A coder of its own for the next chunk, of a kind. */
    Maker chunk(int kind) {
        low = BigInteger.ZERO;
        range = 0xFFFFFFFFL;
        shifts = 0;
        if (kind > 0) {
            chances.clear();
            Arrays.fill(backs, 1);
            state = 0;
        }
        if (kind == 3) {
            begun = made.size();
        }
        return this;
    }

    /** Bytes of a plain chunk; those of 1 begin the dictionary anew. */
    Maker plain(int control, byte[] bytes) {
        if (control == 1) {
            begun = made.size();
        }
        for (byte b : bytes) {
            made.add(b & 255);
        }
        return this;
    }

    Maker literals(String text) {
        for (int i = 0; i < text.length(); i++) {
            literal(text.charAt(i));
        }
        return this;
    }

    Maker literal(int b) {
        int pos = made.size() - begun;
        bit("is " + state + " " + turn(), 0);
        int before = pos > 0 ? made.get(made.size() - 1) : 0;
        String set = "literal " + (pos % (1 << lp) * (1 << lc) + before / (1 << 8 - lc)) + " ";
        int away = state >= 7 ? ago(backs[0]) : 0;
        boolean same = state >= 7;
        int m = 1;
        for (int i = 7; i >= 0; i--) {
            int other = away >> i & 1;
            int next = b >> i & 1;
            bit(set + (same ? m + 256 + 256 * other : m), next);
            m = 2 * m + next;
            same = same && next == other;
        }
        state = BEHIND_LITERAL[state];
        made.add(b & 255);
        return this;
    }

    Maker match(int length, long far) {
        bit("is " + state + " " + turn(), 1);
        bit("rep " + state, 0);
        length("first", length);
        far(length, far);
        for (int i = 3; i > 0; i--) {
            backs[i] = backs[i - 1];
        }
        backs[0] = far;
        state = state < 7 ? 7 : 10;
        copy(far == MARK ? 0 : length, far);
        return this;
    }

    Maker mark() {
        return match(2, MARK);
    }

    Maker shortRep() {
        bit("is " + state + " " + turn(), 1);
        bit("rep " + state, 1);
        bit("first " + state, 0);
        bit("long " + state + " " + turn(), 0);
        state = state < 7 ? 9 : 11;
        copy(1, backs[0]);
        return this;
    }

    Maker rep(int i, int length) {
        bit("is " + state + " " + turn(), 1);
        bit("rep " + state, 1);
        bit("first " + state, i == 0 ? 0 : 1);
        if (i == 0) {
            bit("long " + state + " " + turn(), 1);
        } else {
            bit("second " + state, i == 1 ? 0 : 1);
        }
        if (i > 1) {
            bit("third " + state, i == 2 ? 0 : 1);
        }
        length("second", length);
        long far = backs[i];
        for (int k = i; k > 0; k--) {
            backs[k] = backs[k - 1];
        }
        backs[0] = far;
        state = state < 7 ? 8 : 11;
        copy(length, far);
        return this;
    }

    /** The first bits of a choice that is none: only IS, or IS and REP. */
    Maker begunChoice(int is, int rep) {
        bit("is " + state + " " + turn(), is);
        if (is == 1) {
            bit("rep " + state, rep);
        }
        return this;
    }

    /** A choice as step() tells it. */
    void choice(int kind, int length, int far, int b) {
        if (kind == 0) {
            literal(b);
        } else if (kind == 1) {
            match(length, far);
        } else if (kind == 6) {
            shortRep();
        } else if (kind == 7) {
            mark();
        } else {
            rep(kind - 2, length);
        }
    }

    private int turn() {
        return (made.size() - begun) % (1 << pb);
    }

    private int ago(long far) {
        int i = made.size() - (int) Math.min(far, 1 << 20);
        return i < 0 ? 0 : made.get(i);
    }

    private void copy(int length, long far) {
        for (int i = 0; i < length; i++) {
            made.add(ago(far));
        }
    }

    private void length(String lengths, int length) {
        String name = lengths + " length ";
        int p = turn();
        bit(name + "A", length < 10 ? 0 : 1);
        if (length < 10) {
            tree(name + "low " + p, 3, length - 2);
            return;
        }
        bit(name + "B", length < 18 ? 0 : 1);
        if (length < 18) {
            tree(name + "mid " + p, 3, length - 10);
        } else {
            tree(name + "high", 8, length - 18);
        }
    }

    private void far(int length, long far) {
        long less = far - 1;
        int slot = 0;
        while (slot < 63 && slotBase(slot + 1) <= less) {
            slot++;
        }
        tree("slot " + Math.min(length - 2, 3), 6, slot);
        if (slot < 4) {
            return;
        }
        int k = slot / 2 - 1;
        int rest = (int) (less - slotBase(slot));
        if (slot < 14) {
            turned("near " + slot, k, rest);
            return;
        }
        for (int i = k - 1; i >= 4; i--) {
            plainBit(rest >> i & 1);
        }
        turned("align", 4, rest & 15);
    }

    private static long slotBase(int slot) {
        return slot < 4 ? slot : 2L + slot % 2 << slot / 2 - 1;
    }

    private void tree(String name, int bits, int v) {
        int m = 1;
        for (int i = bits - 1; i >= 0; i--) {
            int next = v >> i & 1;
            bit(name + " " + m, next);
            m = 2 * m + next;
        }
    }

    private void turned(String name, int bits, int v) {
        int m = 1;
        for (int i = 0; i < bits; i++) {
            int next = v >> i & 1;
            bit(name + " " + m, next);
            m = 2 * m + next;
        }
    }

    private void bit(String name, int bit) {
        int c = chances.getOrDefault(name, 1024);
        long b = range / 2048 * c;
        if (bit == 0) {
            range = b;
            c += (2048 - c) / 32;
        } else {
            add(b);
            range -= b;
            c -= c / 32;
        }
        chances.put(name, c);
        grow();
    }

    private void plainBit(int bit) {
        range /= 2;
        if (bit == 1) {
            add(range);
        }
        grow();
    }

    private void add(long more) {
        BigInteger shifted = low.shiftRight(32);
        low = low.add(BigInteger.valueOf(more));
        if (!low.shiftRight(32).equals(shifted)) {
            carries++;
            longestCarry = Math.max(longestCarry, shifted.not().getLowestSetBit() / 8);
        }
    }

    private void grow() {
        while (range < 1 << 24) {
            range *= 256;
            low = low.shiftLeft(8);
            shifts++;
        }
    }

    // Rows of bytes that hold such bits.

    static byte[] join(byte[]... parts) {
        ByteArrayOutputStream all = new ByteArrayOutputStream();
        for (byte[] part : parts) {
            all.write(part, 0, part.length);
        }
        return all.toByteArray();
    }

    static byte[] row(int... bytes) {
        byte[] b = new byte[bytes.length];
        for (int i = 0; i < b.length; i++) {
            b[i] = (byte) bytes[i];
        }
        return b;
    }

    static byte[] number(long v, int bytes) {
        byte[] b = new byte[bytes];
        for (int i = 0; i < bytes; i++) {
            b[i] = (byte) (v >>> 8 * i);
        }
        return b;
    }

    /** The same bytes, but for one that is another. */
    static byte[] changed(byte[] bytes, int at, int v) {
        byte[] b = bytes.clone();
        b[at] = (byte) v;
        return b;
    }

    static byte[] cut(byte[] bytes, int n) {
        return Arrays.copyOf(bytes, n);
    }

    /** Form 0; a size of -1: none is told. */
    static byte[] alone(int propertyByte, long dictionary, long size, byte[] bits) {
        return join(row(propertyByte), number(dictionary, 4), number(size, 8), bits);
    }

    byte[] alone(long size) {
        return alone(propertyByte(), 4096, size, bits());
    }

    /** A chunk with bits; told is how many bytes it has, packed how many packed ones it tells. */
    byte[] bitChunk(int kind, int told, int packed) {
        int t = told - 1;
        int p = packed - 1;
        byte[] head = row(128 | kind << 5 | t >> 16, t >> 8, t, p >> 8, p);
        return kind > 1 ? join(head, row(propertyByte()), bits()) : join(head, bits());
    }

    byte[] bitChunk(int kind, int told) {
        return bitChunk(kind, told, read());
    }

    static byte[] plainChunk(int control, byte[] bytes) {
        int t = bytes.length - 1;
        return join(row(control, t >> 8, t), bytes);
    }
}
