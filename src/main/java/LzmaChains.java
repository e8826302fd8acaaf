import java.util.Arrays;

/**
 * Bytes made small by chains: what came before is told by a length and how far back, each choice by
 * bits whose chances are learned, all bits gathered into one great number; in three forms: a row of
 * its own, chunks that begin anew, and a box with blocks, checks and an index.
 */
public final class LzmaChains {
    public static final int BAD = -1, NONE = -2, FULL = -3;

    private static final int ALONE = 0, CHUNKS = 1, BOX = 2;
    private static final int MOST_INPUT = 1500, MOST_OUT = 3000, MOST_BLOCKS = 200, MOST_STEPS = 2000;
    private static final int LITERAL = 0, MATCH = 1, REP = 2, SHORT = 6, END_MARK = 7;
    private static final int NO_CHECK = 0, CRC32 = 1, CRC64 = 4, SHA256 = 10;
    private static final int DELTA = 3, BRANCH = 7, LZMA2 = 33;
    private static final int LONGEST_COPY = 273;

    private final int form;
    private final Settings settings;
    private final Row input;
    private final Row output;
    private final Model model;
    private final Checks checks;
    private final Ledger ledger;
    private final Packer packer;
    private final Opener opener;
    private int broken;
    private int lastState;

    public LzmaChains(int form) {
        this.form = form == CHUNKS || form == BOX ? form : ALONE;
        settings = new Settings();
        input = new Row(MOST_INPUT);
        output = new Row(MOST_OUT);
        Reader source = new Reader(input);
        model = new Model(new Coder(source, output));
        checks = new Checks();
        ledger = new Ledger();
        packer = new Packer(settings, input, output, model, checks, ledger);
        opener = new Opener(source, output, model, checks, ledger);
        broken = 0;
        lastState = -1;
    }

    public int property(int what, int v) {
        boolean set = what < 4 ? settings.setCoding(what, v, form == BOX) : settings.setShape(what, v);
        return set ? 1 : 0;
    }

    public int filter(int kind, int v) {
        return settings.setFilter(kind, v) ? 1 : 0;
    }

    public int feed(int a, int b, int c, int d, int e) {
        if (input.size > MOST_INPUT - 20) {
            return FULL;
        }
        input.putHigh(a, 4);
        input.putHigh(b, 4);
        input.putHigh(c, 4);
        input.putHigh(d, 4);
        input.putHigh(e, 4);
        return input.size;
    }

    public int end(int n) {
        if (n < 0 || n > 20 || input.size < 20) {
            return BAD;
        }
        input.size -= 20 - n;
        return input.size;
    }

    public int octet(int b) {
        if (input.size >= MOST_INPUT) {
            return FULL;
        }
        input.put(b);
        return input.size;
    }

    // The box is driven from here, and not from the packer, to keep the calls at most eight deep.
    public int pack(int level) {
        if (level < 0 || level > 2) {
            return BAD;
        }
        packer.begin(level);
        if (form == ALONE) {
            packer.writeAlone();
        } else if (form == CHUNKS) {
            packer.writeChunks(0, input.size);
            packer.noteChunks();
        } else {
            packer.writeStart();
            int most = Math.max(1, settings.block);
            for (int from = 0; from < input.size && output.size <= MOST_OUT; from += most) {
                int to = Math.min(from + most, input.size);
                packer.writeHead(from, to);
                packer.writeChunks(from, to);
                packer.writeTail(from, to);
            }
            packer.writeIndex();
            packer.writeFoot();
        }
        input.size = 0;
        broken = 0;
        return finishPacking();
    }

    private int finishPacking() {
        lastState = model.state;
        if (output.size > MOST_OUT) {
            output.size = 0;
            ledger.clear();
            lastState = -1;
            return FULL;
        }
        return output.size;
    }

    // The box is driven from here, and not from the opener, to keep the calls at most eight deep.
    public int open(int memory) {
        opener.begin(memory);
        boolean whole = true;
        try {
            if (form == ALONE) {
                opener.readAlone();
            } else if (form == CHUNKS) {
                opener.askMemory(settings.dictionary);
                opener.readChunks();
                opener.noteBlock();
            } else {
                opener.readStart();
                int blocks = 0;
                while (blocks < MOST_BLOCKS && opener.findBlock()) {
                    opener.readHead();
                    opener.readChunks();
                    opener.readTail();
                    opener.noteBlock();
                    blocks++;
                }
                opener.readIndex();
                opener.readFoot();
            }
            opener.askEnd();
        } catch (IllegalStateException e) {
            whole = false;
        }
        input.size = 0;
        lastState = model.state;
        return finishOpening(whole);
    }

    private int finishOpening(boolean whole) {
        broken = whole ? 0 : opener.source.broken;
        if (whole) {
            return output.size;
        }
        if (form == BOX) {
            output.size = ledger.bytesOfBlocks();
        }
        return -10 - opener.source.at;
    }

    public int rule() {
        return broken;
    }

    public int pass() {
        if (output.size > MOST_INPUT) {
            return FULL;
        }
        input.size = 0;
        for (int i = 0; i < output.size; i++) {
            input.put(output.get(i));
        }
        return input.size;
    }

    public int out(int i) throws ArrayIndexOutOfBoundsException {
        if (i < 0 || i >= output.size) {
            throw new ArrayIndexOutOfBoundsException();
        }
        return output.get(i);
    }

    public int step(int i, int what) {
        if (i == -1 && what == 0) {
            return ledger.steps;
        }
        return ledger.stepPart(i, what);
    }

    public int state() {
        return lastState;
    }

    public int block(int i, int what) {
        if (i == -1 && what == 0) {
            return ledger.blocks;
        }
        return ledger.blockPart(i, what);
    }

    public int check(int kind, int i) {
        if (!Checks.isKind(kind) || i < 0 || i >= Checks.bytesOf(kind) / 4) {
            return BAD;
        }
        checks.compute(kind, output, 0, output.size);
        return checks.words[i & 7];
    }

    public int turn(int kind, int v, boolean back) {
        if (kind == 0 && v >= 1 && v <= 256) {
            output.delta(0, output.size, v, back);
            return output.size;
        }
        if (kind == 1) {
            output.branch(0, output.size, back);
            return output.size;
        }
        return BAD;
    }

    public int count(int what) {
        if (what == 0) {
            return input.size;
        }
        return what == 1 ? output.size : BAD;
    }

    /** What property() and filter() have set. */
    private static final class Settings {
        int lc;
        int lp;
        int pb;
        int dictionary;
        int chunk;
        int block;
        int check;
        int mark;
        int delta;
        int branch;

        Settings() {
            lc = 3;
            lp = 0;
            pb = 2;
            dictionary = 4096;
            chunk = 512;
            block = 1024;
            check = CRC32;
        }

        boolean setCoding(int what, int v, boolean box) {
            if (what == 0 && v >= 0 && v <= 4 - lp) {
                lc = v;
                return true;
            }
            if (what == 1 && v >= 0 && v <= 4 - lc) {
                lp = v;
                return true;
            }
            if (what == 2 && v >= 0 && v <= 4) {
                pb = v;
                return true;
            }
            if (what == 3 && v >= (box ? 4096 : 1) && v <= 4096) {
                dictionary = v;
                return true;
            }
            return false;
        }

        boolean setShape(int what, int v) {
            if (what == 4 && v >= 1 && v <= MOST_INPUT) {
                chunk = v;
                return true;
            }
            if (what == 5 && v >= 1 && v <= MOST_INPUT) {
                block = v;
                return true;
            }
            if (what == 6 && Checks.isKind(v)) {
                check = v;
                return true;
            }
            if (what == 7 && (v == 0 || v == 1)) {
                mark = v;
                return true;
            }
            return false;
        }

        boolean setFilter(int kind, int v) {
            if (kind == 0 && v >= 0 && v <= 256) {
                delta = v;
                return true;
            }
            if (kind == 1 && (v == 0 || v == 1)) {
                branch = v;
                return true;
            }
            return false;
        }

        int propertyByte() {
            return (pb * 5 + lp) * 9 + lc;
        }
    }

    /** A row of bytes; beyond its room it only counts, so that FULL can be told at the end. */
    private static final class Row {
        final int[] data;
        int size;

        Row(int room) {
            data = new int[room];
        }

        void put(int b) {
            set(size, b);
            size++;
        }

        void set(int i, int b) {
            if (i >= 0 && i < data.length) {
                data[i] = b & 255;
            }
        }

        int get(int i) {
            return i >= 0 && i < data.length ? data[i] : 0;
        }

        void putLow(long v, int bytes) {
            for (int i = 0; i < bytes; i++) {
                put((int) (v >>> 8 * i));
            }
        }

        void putHigh(long v, int bytes) {
            for (int i = bytes - 1; i >= 0; i--) {
                put((int) (v >>> 8 * i));
            }
        }

        void putNumber(int v) {
            int rest = v;
            for (int i = 0; i < 4 && rest > 127; i++) {
                put(rest & 127 | 128);
                rest >>>= 7;
            }
            put(rest & 127);
        }

        void putZeros(int from) {
            for (int i = 0; i < 3 && (size - from & 3) != 0; i++) {
                put(0);
            }
        }

        // Packing goes from behind, so that each byte still finds the one before it as it was.
        void delta(int from, int to, int distance, boolean back) {
            int count = to - from - distance;
            for (int k = 0; k < count; k++) {
                int i = back ? from + distance + k : to - 1 - k;
                int before = get(i - distance);
                set(i, back ? get(i) + before : get(i) - before);
            }
        }

        void branch(int from, int to, boolean back) {
            for (int i = from; i + 3 < to; i += 4) {
                if (get(i + 3) == 235) {
                    int there = (get(i) | get(i + 1) << 8 | get(i + 2) << 16) << 2;
                    int here = i - from + 8;
                    int turned = (back ? there - here : there + here) >>> 2;
                    set(i, turned);
                    set(i + 1, turned >>> 8);
                    set(i + 2, turned >>> 16);
                }
            }
        }
    }

    /** The input as it is opened: how far it was read, and the rule that was seen broken. */
    private static final class Reader {
        final Row row;
        int at;
        int limit;
        int broken;

        Reader(Row row) {
            this.row = row;
        }

        void begin() {
            at = 0;
            limit = row.size;
            broken = 0;
        }

        int next() {
            if (at < 0 || at >= limit || at >= row.data.length) {
                broken = 1;
                throw new IllegalStateException();
            }
            int b = row.data[at];
            at++;
            return b;
        }

        void fail(int rule) {
            broken = rule;
            throw new IllegalStateException();
        }

        long low(int bytes) {
            long v = 0;
            for (int i = 0; i < bytes; i++) {
                v |= (long) next() << 8 * i;
            }
            return v;
        }

        int high(int bytes) {
            int v = 0;
            for (int i = 0; i < bytes; i++) {
                v = v << 8 | next();
            }
            return v;
        }
    }

    /**
     * The great number, both ways: packing, a bit that is given goes out; opening, the bit that is
     * found comes back, and the given one is not looked at.
     */
    private static final class Coder {
        private static final long TOP = 1L << 24;
        // A CODE that is RANGE or more stays so for ever: it may stop growing long before it wraps.
        private static final long MOST_CODE = 1L << 40;

        final int[] chances;
        final Reader source;
        final Row sink;
        boolean opening;
        long low;
        long range;
        long code;
        int held;
        int waiting;

        Coder(Reader source, Row sink) {
            this.source = source;
            this.sink = sink;
            chances = new int[Model.ALL_CHANCES];
        }

        void beginPacking() {
            opening = false;
            low = 0;
            range = 0xFFFFFFFFL;
            held = 0;
            waiting = 1;
        }

        void beginOpening() {
            opening = true;
            range = 0xFFFFFFFFL;
            if (source.next() != 0) {
                source.fail(2);
            }
            code = source.high(4) & 0xFFFFFFFFL;
        }

        // A chance stays within 31 .. 2017, so that RANGE needs at most one SHIFT behind a bit.
        int bit(int place, int given) {
            if (place < 0 || place >= chances.length) {
                return 0;
            }
            int chance = chances[place];
            long bound = (range >>> 11) * chance;
            int found = opening ? (code < bound ? 0 : 1) : given;
            if (found == 0) {
                range = bound;
                chances[place] = chance + (2048 - chance >> 5);
            } else {
                range -= bound;
                skip(bound);
                chances[place] = chance - (chance >> 5);
            }
            if (range < TOP) {
                range <<= 8;
                if (opening) {
                    code = Math.min(code << 8 | source.next(), MOST_CODE);
                } else {
                    shift();
                }
            }
            return found;
        }

        int plainBit(int given) {
            range >>>= 1;
            int found = opening ? (code < range ? 0 : 1) : given;
            if (found != 0) {
                skip(range);
            }
            if (range < TOP) {
                range <<= 8;
                if (opening) {
                    code = Math.min(code << 8 | source.next(), MOST_CODE);
                } else {
                    shift();
                }
            }
            return found;
        }

        void skip(long part) {
            if (opening) {
                code -= part;
            } else {
                low += part;
            }
        }

        void shift() {
            if (low < 0xFF000000L || low >= 1L << 32) {
                int more = low >= 1L << 32 ? 1 : 0;
                for (int i = 0; i < waiting; i++) {
                    int b = (i == 0 ? held : 255) + more & 255;
                    if (sink.size >= 0 && sink.size < sink.data.length) {
                        sink.data[sink.size] = b;
                    }
                    sink.size++;
                }
                waiting = 0;
                held = (int) (low >>> 24) & 255;
            }
            waiting++;
            low = (low & 0xFFFFFF) << 8;
        }

        void flush() {
            for (int i = 0; i < 5; i++) {
                shift();
            }
        }

        int tree(int base, int bits, int given) {
            int m = 1;
            for (int i = bits - 1; i >= 0; i--) {
                m = m << 1 | bit(base + m, given >> i & 1);
            }
            return m - (1 << bits);
        }

        int turned(int base, int bits, int given) {
            int m = 1;
            int found = 0;
            for (int i = 0; i < bits; i++) {
                int next = bit(base + m, given >> i & 1);
                m = m << 1 | next;
                found |= next << i;
            }
            return found;
        }

        long plain(int bits, long given) {
            long found = 0;
            for (int i = bits - 1; i >= 0; i--) {
                found = found << 1 | plainBit((int) (given >>> i) & 1);
            }
            return found;
        }
    }

    /** The choices as bits, both ways, with what is learned: CHANCES, STATE, BACKS. */
    private static final class Model {
        static final long MARK_FAR = 1L << 32;
        static final int IS = 0, IS_REP = 192, FIRST = 204, SECOND = 216, THIRD = 228, LONG = 240;
        static final int SLOTS = 432, NEAR = 688, ALIGN = 1008, LENGTHS = 1024, REP_LENGTHS = 1538;
        static final int LITERALS = 2052, LITERAL_SET = 768, ALL_CHANCES = LITERALS + (LITERAL_SET << 4);

        final Coder coder;
        final long[] backs;
        int lc;
        int lp;
        int pb;
        int state;

        Model(Coder coder) {
            this.coder = coder;
            backs = new long[4];
        }

        void use(int newLc, int newLp, int newPb) {
            lc = newLc;
            lp = newLp;
            pb = newPb;
        }

        void reset() {
            int used = LITERALS + (LITERAL_SET << lc + lp);
            Arrays.fill(coder.chances, 0, Math.min(used, ALL_CHANCES), 1024);
            Arrays.fill(backs, 1L);
            state = 0;
        }

        long back(int i) {
            return i >= 0 && i < 4 ? backs[i] : 0;
        }

        int turnOf(int pos) {
            return pos & (1 << pb) - 1;
        }

        int codeKind(int kind, int pos) {
            int p = turnOf(pos);
            if (coder.bit(IS + state * 16 + p, kind == LITERAL ? 0 : 1) == 0) {
                return LITERAL;
            }
            if (coder.bit(IS_REP + state, kind == MATCH || kind == END_MARK ? 0 : 1) == 0) {
                return MATCH;
            }
            if (coder.bit(FIRST + state, kind == REP || kind == SHORT ? 0 : 1) == 0) {
                return coder.bit(LONG + state * 16 + p, kind == SHORT ? 0 : 1) == 0 ? SHORT : REP;
            }
            if (coder.bit(SECOND + state, kind == REP + 1 ? 0 : 1) == 0) {
                return REP + 1;
            }
            return coder.bit(THIRD + state, kind == REP + 2 ? 0 : 1) == 0 ? REP + 2 : REP + 3;
        }

        // The first two bits of a MATCH; false at the first that is none of it.
        boolean codeMatch(int pos) {
            return coder.bit(IS + state * 16 + turnOf(pos), 1) == 1 && coder.bit(IS_REP + state, 0) == 0;
        }

        int codeLiteral(int given, int pos, int before, int away) {
            int set = ((pos & (1 << lp) - 1) << lc) + (before >> 8 - lc);
            int base = LITERALS + LITERAL_SET * set;
            boolean same = state >= 7;
            int m = 1;
            for (int i = 7; i >= 0; i--) {
                int awayBit = away >> i & 1;
                int place = same ? base + m + 256 + (awayBit << 8) : base + m;
                int bit = coder.bit(place, given >> i & 1);
                m = m << 1 | bit;
                same = same && bit == awayBit;
            }
            return m & 255;
        }

        int codeLength(int base, int given, int pos) {
            int p = turnOf(pos);
            int n = given - 2;
            if (coder.bit(base, n < 8 ? 0 : 1) == 0) {
                return 2 + coder.tree(base + 2 + p * 8, 3, n);
            }
            if (coder.bit(base + 1, n < 16 ? 0 : 1) == 0) {
                return 10 + coder.tree(base + 130 + p * 8, 3, n - 8);
            }
            return 18 + coder.tree(base + 258, 8, n - 16);
        }

        long codeFar(long given, int length) {
            int set = Math.max(0, Math.min(length - 2, 3));
            int slot = coder.tree(SLOTS + set * 64, 6, slotOf(given - 1));
            if (slot < 4) {
                return slot + 1;
            }
            int bits = slot / 2 - 1;
            long base = 2L + (slot & 1) << bits;
            long rest = given - 1 - base;
            if (slot < 14) {
                return base + coder.turned(NEAR + (slot - 4) * 32, bits, (int) rest) + 1;
            }
            long high = coder.plain(bits - 4, rest >>> 4) << 4;
            return base + high + coder.turned(ALIGN, 4, (int) rest & 15) + 1;
        }

        static int slotOf(long less) {
            if (less < 4) {
                return (int) less;
            }
            int top = 63 - Long.numberOfLeadingZeros(less);
            return 2 * top + (int) (less >>> top - 1 & 1);
        }

        // What a choice leaves behind, once all of it has been coded.
        void follow(int kind, long far) {
            if (kind == LITERAL) {
                state = state < 4 ? 0 : state < 10 ? state - 3 : state - 6;
            } else if (kind == SHORT) {
                state = state < 7 ? 9 : 11;
            } else if (kind == MATCH || kind == END_MARK) {
                bringToFront(3, far);
                state = state < 7 ? 7 : 10;
            } else {
                bringToFront(kind - REP, far);
                state = state < 7 ? 8 : 11;
            }
        }

        void bringToFront(int from, long far) {
            for (int i = Math.min(from, 3); i > 0; i--) {
                backs[i] = backs[i - 1];
            }
            backs[0] = far;
        }
    }

    /** The steps and blocks of the last pack() or open(). */
    private static final class Ledger {
        final int[] stepParts;
        final int[] blockParts;
        int steps;
        int blocks;

        Ledger() {
            stepParts = new int[4 * MOST_STEPS];
            blockParts = new int[5 * MOST_BLOCKS];
        }

        void clear() {
            steps = 0;
            blocks = 0;
        }

        void addStep(int kind, int place, int length, int far) {
            if (steps >= 0 && steps < MOST_STEPS) {
                int i = 4 * steps;
                stepParts[i] = kind;
                stepParts[i + 1] = place;
                stepParts[i + 2] = length;
                stepParts[i + 3] = far;
            }
            steps++;
        }

        int stepPart(int i, int what) {
            if (i < 0 || i >= steps || i >= MOST_STEPS || what < 0 || what > 3) {
                return BAD;
            }
            return stepParts[4 * i + what];
        }

        void addBlock(int place, int head, int packed, int bytes, int chunks) {
            if (blocks >= 0 && blocks < MOST_BLOCKS) {
                int i = 5 * blocks;
                blockParts[i] = place;
                blockParts[i + 1] = head;
                blockParts[i + 2] = packed;
                blockParts[i + 3] = bytes;
                blockParts[i + 4] = chunks;
                blocks++;
            }
        }

        int blockPart(int i, int what) {
            if (i < 0 || i >= blocks || i >= MOST_BLOCKS || what < 0 || what > 4) {
                return BAD;
            }
            return blockParts[5 * i + what];
        }

        int bytesOfBlocks() {
            int bytes = 0;
            for (int i = 0; i < blocks; i++) {
                bytes += blockPart(i, 3);
            }
            return bytes;
        }

        // The INDEX without its CRC32, as it must be for these blocks.
        void putIndex(Row row, int checkBytes) {
            int from = row.size;
            row.put(0);
            row.putNumber(blocks);
            for (int i = 0; i < blocks; i++) {
                row.putNumber(blockPart(i, 1) + blockPart(i, 2) + checkBytes);
                row.putNumber(blockPart(i, 3));
            }
            row.putZeros(from);
        }
    }

    /** CRC32, CRC64 and SHA-256 of a part of a row, as words. */
    private static final class Checks {
        private static final int[] SHA_KEYS = {
            0x428a2f98, 0x71374491, 0xb5c0fbcf, 0xe9b5dba5, 0x3956c25b, 0x59f111f1, 0x923f82a4, 0xab1c5ed5,
            0xd807aa98, 0x12835b01, 0x243185be, 0x550c7dc3, 0x72be5d74, 0x80deb1fe, 0x9bdc06a7, 0xc19bf174,
            0xe49b69c1, 0xefbe4786, 0x0fc19dc6, 0x240ca1cc, 0x2de92c6f, 0x4a7484aa, 0x5cb0a9dc, 0x76f988da,
            0x983e5152, 0xa831c66d, 0xb00327c8, 0xbf597fc7, 0xc6e00bf3, 0xd5a79147, 0x06ca6351, 0x14292967,
            0x27b70a85, 0x2e1b2138, 0x4d2c6dfc, 0x53380d13, 0x650a7354, 0x766a0abb, 0x81c2c92e, 0x92722c85,
            0xa2bfe8a1, 0xa81a664b, 0xc24b8b70, 0xc76c51a3, 0xd192e819, 0xd6990624, 0xf40e3585, 0x106aa070,
            0x19a4c116, 0x1e376c08, 0x2748774c, 0x34b0bcb5, 0x391c0cb3, 0x4ed8aa4a, 0x5b9cca4f, 0x682e6ff3,
            0x748f82ee, 0x78a5636f, 0x84c87814, 0x8cc70208, 0x90befffa, 0xa4506ceb, 0xbef9a3f7, 0xc67178f2};
        private static final int[] SHA_START = {
            0x6a09e667, 0xbb67ae85, 0x3c6ef372, 0xa54ff53a, 0x510e527f, 0x9b05688c, 0x1f83d9ab, 0x5be0cd19};

        final int[] words;
        final int[] mixed;
        final int[] schedule;

        Checks() {
            words = new int[8];
            mixed = new int[8];
            schedule = new int[64];
        }

        static boolean isKind(int kind) {
            return kind == NO_CHECK || kind == CRC32 || kind == CRC64 || kind == SHA256;
        }

        static int bytesOf(int kind) {
            return kind == CRC32 ? 4 : kind == CRC64 ? 8 : kind == SHA256 ? 32 : 0;
        }

        void compute(int kind, Row row, int from, int to) {
            if (kind == CRC32) {
                words[0] = crc32(row, from, to);
            } else if (kind == CRC64) {
                long crc = crc64(row, from, to);
                words[0] = (int) crc;
                words[1] = (int) (crc >>> 32);
            } else if (kind == SHA256) {
                sha256(row, from, to);
            }
        }

        int byteOf(int kind, int i) {
            int word = words[i >> 2 & 7];
            int at = i & 3;
            return word >>> 8 * (kind == SHA256 ? 3 - at : at) & 255;
        }

        static int crc32(Row row, int from, int to) {
            int crc = -1;
            for (int i = from; i < to; i++) {
                crc ^= row.get(i);
                for (int k = 0; k < 8; k++) {
                    crc = crc >>> 1 ^ (0xEDB88320 & -(crc & 1));
                }
            }
            return ~crc;
        }

        static long crc64(Row row, int from, int to) {
            long crc = -1;
            for (int i = from; i < to; i++) {
                crc ^= row.get(i);
                for (int k = 0; k < 8; k++) {
                    crc = crc >>> 1 ^ (0xC96C5795D7870F42L & -(crc & 1));
                }
            }
            return ~crc;
        }

        void sha256(Row row, int from, int to) {
            System.arraycopy(SHA_START, 0, words, 0, 8);
            int count = to - from;
            int whole = count + 72 & ~63;
            for (int start = 0; start < whole; start += 64) {
                for (int i = 0; i < 16; i++) {
                    int word = 0;
                    for (int k = 0; k < 4; k++) {
                        word = word << 8 | shaByte(row, from, count, start + 4 * i + k);
                    }
                    schedule[i] = word;
                }
                if (start + 64 == whole) {
                    schedule[15] = count * 8;
                }
                mixBlock();
            }
        }

        static int shaByte(Row row, int from, int count, int i) {
            return i < count ? row.get(from + i) : i == count ? 128 : 0;
        }

        void mixBlock() {
            for (int i = 16; i < 64; i++) {
                int a = schedule[i - 15];
                int b = schedule[i - 2];
                int low = Integer.rotateRight(a, 7) ^ Integer.rotateRight(a, 18) ^ a >>> 3;
                int high = Integer.rotateRight(b, 17) ^ Integer.rotateRight(b, 19) ^ b >>> 10;
                schedule[i] = schedule[i - 16] + low + schedule[i - 7] + high;
            }
            System.arraycopy(words, 0, mixed, 0, 8);
            for (int i = 0; i < 64; i++) {
                mixRound(SHA_KEYS[i] + schedule[i]);
            }
            for (int i = 0; i < 8; i++) {
                words[i] += mixed[i];
            }
        }

        void mixRound(int added) {
            int a = mixed[0];
            int e = mixed[4];
            int sumE = Integer.rotateRight(e, 6) ^ Integer.rotateRight(e, 11) ^ Integer.rotateRight(e, 25);
            int sumA = Integer.rotateRight(a, 2) ^ Integer.rotateRight(a, 13) ^ Integer.rotateRight(a, 22);
            int chosen = e & mixed[5] ^ ~e & mixed[6];
            int major = a & mixed[1] ^ a & mixed[2] ^ mixed[1] & mixed[2];
            int one = mixed[7] + sumE + chosen + added;
            for (int i = 7; i > 0; i--) {
                mixed[i] = mixed[i - 1];
            }
            mixed[4] += one;
            mixed[0] = one + sumA + major;
        }
    }

    /** The three ways of choosing, on a part of the input. */
    private static final class Chooser {
        final Row row;
        final Model model;
        final int[] longest;
        final int[] nearest;
        final int[] runs;
        final int[] costs;
        final int[] strides;
        int base;
        int from;
        int to;
        int kind;
        int length;
        int far;

        Chooser(Row row, Model model) {
            this.row = row;
            this.model = model;
            longest = new int[MOST_INPUT + 1];
            nearest = new int[MOST_INPUT + 1];
            runs = new int[MOST_INPUT + 1];
            costs = new int[MOST_INPUT + 1];
            strides = new int[MOST_INPUT + 1];
        }

        void prepare(int newBase, int newFrom, int newTo, int dictionary, int level) {
            base = newBase;
            from = newFrom;
            to = Math.min(newTo, MOST_INPUT);
            findLongest(dictionary);
            if (level == 2) {
                weigh();
            }
        }

        // Going backwards, a run of equal bytes is one longer than that of the next place.
        void findLongest(int dictionary) {
            int[] data = row.data;
            Arrays.fill(runs, 0);
            for (int place = Math.min(to, data.length) - 1; place >= from; place--) {
                int most = Math.min(Math.min(dictionary, place - base), MOST_INPUT);
                int best = 0;
                int bestFar = 0;
                for (int d = 1; d <= most; d++) {
                    int run = data[place] == data[place - d] ? runs[d] + 1 : 0;
                    runs[d] = run;
                    if (run > best && best < LONGEST_COPY) {
                        best = Math.min(run, LONGEST_COPY);
                        bestFar = d;
                    }
                }
                longest[place - from] = best;
                nearest[place - from] = bestFar;
            }
        }

        void weigh() {
            int last = to - from;
            costs[last] = 0;
            for (int i = last - 1; i >= 0; i--) {
                int best = 9 + costs[i + 1];
                int stride = 1;
                int farCost = 32 - Integer.numberOfLeadingZeros(nearest[i]);
                for (int n = 2; n <= longest[i] && i + n <= last; n++) {
                    int cost = 7 + (n > 9 ? 3 : 0) + (n > 17 ? 5 : 0) + farCost + costs[i + n];
                    if (cost <= best) {
                        best = cost;
                        stride = n;
                    }
                }
                costs[i] = best;
                strides[i] = stride;
            }
        }

        void choose(int level, int place) {
            if (place < from || place >= to) {
                take(LITERAL, 1, 0);
            } else if (level == 2) {
                chooseCheapest(place);
            } else if (level == 1) {
                chooseLazily(place);
            } else {
                chooseGreedily(place);
            }
        }

        void take(int newKind, int newLength, int newFar) {
            kind = newKind;
            length = newLength;
            far = newFar;
        }

        void chooseGreedily(int place) {
            int bestBack = 0;
            int bestLength = -1;
            for (int i = 0; i < 4; i++) {
                int n = repeat(place, model.back(i));
                if (n > bestLength) {
                    bestLength = n;
                    bestBack = i;
                }
            }
            int most = longest[place - from];
            int mostFar = nearest[place - from];
            if (bestLength >= 2 && bestLength >= most - 1) {
                take(REP + bestBack, bestLength, (int) model.back(bestBack));
            } else if (most >= 3 || most == 2 && mostFar <= 128) {
                take(MATCH, most, mostFar);
            } else if (repeat(place, model.back(0)) == 1) {
                take(SHORT, 1, (int) model.back(0));
            } else {
                take(LITERAL, 1, 0);
            }
        }

        void chooseLazily(int place) {
            chooseGreedily(place);
            if (kind == LITERAL || kind == SHORT || length >= 32 || place + 1 >= to) {
                return;
            }
            int firstKind = kind;
            int firstLength = length;
            int firstFar = far;
            chooseGreedily(place + 1);
            if (length >= firstLength + 2) {
                take(LITERAL, 1, 0);
            } else {
                take(firstKind, firstLength, firstFar);
            }
        }

        void chooseCheapest(int place) {
            int stride = strides[place - from];
            if (stride < 2) {
                if (model.state >= 7 && repeat(place, model.back(0)) >= 1) {
                    take(SHORT, 1, (int) model.back(0));
                } else {
                    take(LITERAL, 1, 0);
                }
                return;
            }
            int away = nearest[place - from];
            take(MATCH, stride, away);
            for (int i = 3; i >= 0; i--) {
                if (model.back(i) == away) {
                    kind = REP + i;
                }
            }
        }

        int repeat(int place, long away) {
            if (away < 1 || away > place - base) {
                return 0;
            }
            int most = Math.min(LONGEST_COPY, to - place);
            int n = 0;
            while (n < most && row.get(place + n) == row.get(place + n - (int) away)) {
                n++;
            }
            return n;
        }
    }

    /** Packing in all three forms. */
    private static final class Packer {
        final Settings settings;
        final Row input;
        final Row output;
        final Model model;
        final Checks checks;
        final Ledger ledger;
        final Chooser chooser;
        int level;
        int headPlace;
        int headSize;
        int chunkPlace;
        int chunks;
        int indexPlace;
        int partPlace;
        int bitsPlace;
        int stepsBefore;
        int stateBefore;

        Packer(Settings settings, Row input, Row output, Model model, Checks checks, Ledger ledger) {
            this.settings = settings;
            this.input = input;
            this.output = output;
            this.model = model;
            this.checks = checks;
            this.ledger = ledger;
            chooser = new Chooser(input, model);
        }

        void begin(int newLevel) {
            level = newLevel;
            output.size = 0;
            ledger.clear();
            model.use(settings.lc, settings.lp, settings.pb);
            model.reset();
        }

        void writeAlone() {
            boolean marked = settings.mark == 1;
            output.put(settings.propertyByte());
            output.putLow(settings.dictionary, 4);
            output.putLow(marked ? -1L : input.size, 8);
            writeBits(0, 0, input.size, marked);
        }

        void writeBits(int base, int from, int to, boolean marked) {
            chooser.prepare(base, from, to, settings.dictionary, level);
            model.coder.beginPacking();
            for (int place = from; place < to; place += Math.max(1, chooser.length)) {
                chooser.choose(level, place);
                writeChoice(base, place);
            }
            if (marked) {
                writeMark(to);
            }
            model.coder.flush();
        }

        void writeChoice(int base, int place) {
            int pos = place - base;
            int kind = chooser.kind;
            int length = chooser.length;
            int far = chooser.far;
            model.codeKind(kind, pos);
            if (kind == LITERAL) {
                int before = pos > 0 ? input.get(place - 1) : 0;
                model.codeLiteral(input.get(place), pos, before, input.get(place - (int) model.back(0)));
            } else if (kind == MATCH) {
                model.codeLength(Model.LENGTHS, length, pos);
                model.codeFar(far, length);
            } else if (kind != SHORT) {
                model.codeLength(Model.REP_LENGTHS, length, pos);
            }
            model.follow(kind, far);
            ledger.addStep(kind, place, length, far);
        }

        void writeMark(int pos) {
            model.codeKind(END_MARK, pos);
            model.codeLength(Model.LENGTHS, 2, pos);
            model.codeFar(Model.MARK_FAR, 2);
            model.follow(END_MARK, Model.MARK_FAR);
            ledger.addStep(END_MARK, pos, 0, 0);
        }

        // A coder gives at least five bytes, so that shorter parts need no trial.
        void writeChunks(int base, int end) {
            chunkPlace = output.size;
            chunks = 0;
            model.reset();
            int sinceBits = -1;
            int most = Math.max(1, settings.chunk);
            for (int from = base; from < end && output.size <= MOST_OUT; from += most) {
                int to = Math.min(from + most, end);
                int kind = from == base ? 3 : sinceBits < 0 ? 2 : sinceBits > 0 ? 1 : 0;
                boolean packed = false;
                if (to - from > 5) {
                    startPart(kind);
                    writeBits(base, from, to, false);
                    packed = endPart(kind, to - from);
                }
                if (packed) {
                    sinceBits = 0;
                } else {
                    writePlain(from == base ? 1 : 2, from, to);
                    sinceBits = sinceBits < 0 ? -1 : 1;
                }
                chunks++;
            }
            output.put(0);
        }

        void startPart(int kind) {
            partPlace = output.size;
            stepsBefore = ledger.steps;
            stateBefore = model.state;
            if (kind > 0) {
                model.reset();
            }
            output.putHigh(0, kind > 1 ? 6 : 5);
            bitsPlace = output.size;
        }

        // A part that ends up plain needs none of the old CHANCES and BACKS: the next one with bits
        // makes them new. Only STATE can still be asked for.
        boolean endPart(int kind, int bytes) {
            int packed = output.size - bitsPlace;
            if (packed >= bytes) {
                output.size = partPlace;
                ledger.steps = stepsBefore;
                model.state = stateBefore;
                return false;
            }
            output.set(partPlace, 128 | kind << 5 | bytes - 1 >> 16);
            output.set(partPlace + 1, bytes - 1 >> 8);
            output.set(partPlace + 2, bytes - 1);
            output.set(partPlace + 3, packed - 1 >> 8);
            output.set(partPlace + 4, packed - 1);
            if (kind > 1) {
                output.set(partPlace + 5, settings.propertyByte());
            }
            return true;
        }

        void writePlain(int control, int from, int to) {
            output.put(control);
            output.putHigh(to - from - 1, 2);
            for (int i = from; i < to; i++) {
                output.put(input.get(i));
            }
        }

        void noteChunks() {
            ledger.addBlock(0, 0, output.size, input.size, chunks);
        }

        void writeStart() {
            output.put(253);
            output.put(55);
            output.put(122);
            output.put(88);
            output.put(90);
            output.put(0);
            writeFlags();
            output.putLow(Checks.crc32(output, 6, 8), 4);
        }

        void writeFlags() {
            output.put(0);
            output.put(settings.check);
        }

        // The check is of the bytes as they were fed, so it is taken before the filters change them;
        // nothing until writeTail() takes another one.
        void writeHead(int from, int to) {
            checks.compute(settings.check, input, from, to);
            headPlace = output.size;
            int filters = (settings.delta > 0 ? 1 : 0) + settings.branch + 1;
            int told = 5 + (settings.delta > 0 ? 3 : 0) + 2 * settings.branch;
            headSize = (told + 3 & ~3) + 4;
            output.put(headSize / 4 - 1);
            output.put(filters - 1);
            if (settings.delta > 0) {
                input.delta(from, to, settings.delta, false);
                writeFilter(DELTA, 1, settings.delta - 1);
            }
            if (settings.branch > 0) {
                input.branch(from, to, false);
                writeFilter(BRANCH, 0, 0);
            }
            writeFilter(LZMA2, 1, 0);
            output.putZeros(headPlace);
            output.putLow(Checks.crc32(output, headPlace, output.size), 4);
        }

        void writeFilter(int kind, int properties, int v) {
            output.putNumber(kind);
            output.putNumber(properties);
            if (properties > 0) {
                output.put(v);
            }
        }

        void writeTail(int from, int to) {
            ledger.addBlock(headPlace, headSize, output.size - chunkPlace, to - from, chunks);
            output.putZeros(headPlace);
            for (int i = 0; i < Checks.bytesOf(settings.check); i++) {
                output.put(checks.byteOf(settings.check, i));
            }
        }

        void writeIndex() {
            indexPlace = output.size;
            ledger.putIndex(output, Checks.bytesOf(settings.check));
            output.putLow(Checks.crc32(output, indexPlace, output.size), 4);
        }

        void writeFoot() {
            int place = output.size;
            output.putLow(0, 4);
            output.putLow((place - indexPlace) / 4 - 1, 4);
            writeFlags();
            int crc = Checks.crc32(output, place + 4, place + 10);
            for (int i = 0; i < 4; i++) {
                output.set(place + i, crc >>> 8 * i);
            }
            output.put(89);
            output.put(90);
        }
    }

    /** The head of a block that is opened: its filters, and what it tells of sizes. */
    private static final class Head {
        final Reader source;
        final int[] kinds;
        final int[] values;
        int filters;
        int place;
        int size;
        long toldPacked;
        long toldBytes;
        long dictionary;

        Head(Reader source) {
            this.source = source;
            kinds = new int[4];
            values = new int[4];
        }

        void readSizes() {
            int flags = nextOfHead();
            if ((flags & 60) != 0) {
                source.fail(8);
            }
            filters = (flags & 3) + 1;
            toldPacked = (flags & 64) != 0 ? readNumber() : -1;
            toldBytes = (flags & 128) != 0 ? readNumber() : -1;
        }

        void readFilters() {
            for (int i = 0; i < filters; i++) {
                readFilter(i & 3, i == filters - 1);
            }
        }

        void readFilter(int i, boolean last) {
            long kind = readNumber();
            if (last ? kind != LZMA2 : kind != DELTA && kind != BRANCH) {
                source.fail(8);
            }
            int properties = kind == BRANCH ? 0 : 1;
            if (readNumber() != properties) {
                source.fail(8);
            }
            kinds[i] = (int) kind;
            values[i] = properties > 0 ? nextOfHead() : 0;
            if (last) {
                readDictionary(values[i]);
            }
        }

        void readDictionary(int d) {
            if (d > 40) {
                source.fail(8);
            }
            dictionary = d == 40 ? 0xFFFFFFFFL : 2L + (d & 1) << d / 2 + 11;
        }

        void readRest() {
            for (int i = source.at; i < place + size - 4; i++) {
                if (source.next() != 0) {
                    source.fail(8);
                }
            }
            int crc = Checks.crc32(source.row, place, source.at);
            if ((int) source.low(4) != crc) {
                source.fail(9);
            }
        }

        int nextOfHead() {
            if (source.at >= place + size - 4) {
                source.fail(8);
            }
            return source.next();
        }

        long readNumber() {
            long v = 0;
            for (int i = 0; i < 9; i++) {
                int b = nextOfHead();
                v |= (long) (b & 127) << 7 * i;
                if (b == 0 && i > 0) {
                    source.fail(8);
                }
                if (b < 128) {
                    return v;
                }
            }
            source.fail(8);
            return v;
        }

        void undo(Row row, int from) {
            for (int i = filters - 2; i >= 0; i--) {
                if (kinds[i & 3] == DELTA) {
                    row.delta(from, row.size, values[i & 3] + 1, true);
                } else {
                    row.branch(from, row.size, true);
                }
            }
        }
    }

    /** Opening in all three forms; each byte is judged as it is read. */
    private static final class Opener {
        final Reader source;
        final Row output;
        final Model model;
        final Checks checks;
        final Ledger ledger;
        final Head head;
        final Row expected;
        long memory;
        long dictionary;
        int base;
        int checkKind;
        int blockStart;
        int chunkPlace;
        int chunkEnd;
        int chunks;
        int packed;

        Opener(Reader source, Row output, Model model, Checks checks, Ledger ledger) {
            this.source = source;
            this.output = output;
            this.model = model;
            this.checks = checks;
            this.ledger = ledger;
            head = new Head(source);
            expected = new Row(1024);
        }

        void begin(int newMemory) {
            source.begin();
            output.size = 0;
            ledger.clear();
            model.use(0, 0, 0);
            model.reset();
            memory = newMemory;
            base = 0;
            head.place = 0;
            head.size = 0;
        }

        void askMemory(long size) {
            dictionary = size;
            if (size > memory) {
                source.fail(15);
            }
        }

        void askEnd() {
            if (source.at < source.row.size) {
                source.fail(12);
            }
        }

        void readAlone() {
            readProperties();
            askMemory(source.low(4));
            long told = source.low(8);
            if (told < -1 || told > MOST_OUT) {
                source.fail(13);
            }
            model.reset();
            readBits((int) told);
            if (told >= 0 && model.coder.code != 0) {
                readLateMark();
            }
            if (model.coder.code != 0) {
                source.fail(7);
            }
        }

        void readProperties() {
            int b = source.next();
            int lc = b % 9;
            int lp = b / 9 % 5;
            if (b >= 225 || lc + lp > 4) {
                source.fail(3);
            }
            model.use(lc, lp, b / 45);
        }

        // An end of -1: no size is told, only the END MARK ends it.
        void readBits(int end) {
            model.coder.beginOpening();
            boolean marked = false;
            for (int i = 0; i <= MOST_OUT && !marked && (end < 0 || output.size < end); i++) {
                marked = readChoice(end);
            }
        }

        boolean readChoice(int end) {
            int pos = output.size - base;
            int kind = model.codeKind(LITERAL, pos);
            if (kind == LITERAL) {
                readLiteral(pos);
                return false;
            }
            int length = 1;
            long far = model.back(kind == SHORT ? 0 : kind - REP);
            if (kind == MATCH) {
                length = model.codeLength(Model.LENGTHS, 0, pos);
                far = model.codeFar(0, length);
            } else if (kind != SHORT) {
                length = model.codeLength(Model.REP_LENGTHS, 0, pos);
            }
            // The bits alone tell STATE and BACKS, whether or not the copy may then be done.
            model.follow(kind, far);
            if (far == Model.MARK_FAR) {
                takeMark(end < 0);
                return true;
            }
            judgeCopy(far, length, end);
            ledger.addStep(kind, output.size, length, (int) far);
            for (int i = 0; i < length; i++) {
                output.put(output.get(output.size - (int) far));
            }
            return false;
        }

        void readLiteral(int pos) {
            int before = pos > 0 ? output.get(output.size - 1) : 0;
            int away = output.get(output.size - (int) model.back(0));
            int b = model.codeLiteral(0, pos, before, away);
            if (output.size >= MOST_OUT) {
                source.fail(13);
            }
            ledger.addStep(LITERAL, output.size, 1, 0);
            model.follow(LITERAL, 0);
            output.put(b);
        }

        void judgeCopy(long far, int length, int end) {
            if (far > output.size - base || far > dictionary) {
                source.fail(4);
            }
            if (end >= 0 && length > end - output.size) {
                source.fail(6);
            }
            if (output.size + length > MOST_OUT) {
                source.fail(13);
            }
        }

        void takeMark(boolean allowed) {
            if (!allowed) {
                source.fail(7);
            }
            ledger.addStep(END_MARK, output.size, 0, 0);
        }

        // Behind all bytes that are told only the END MARK may come: what is none is seen at once.
        void readLateMark() {
            int pos = output.size - base;
            if (!model.codeMatch(pos)) {
                source.fail(7);
            }
            int length = model.codeLength(Model.LENGTHS, 0, pos);
            long far = model.codeFar(0, length);
            model.follow(MATCH, far);
            takeMark(far == Model.MARK_FAR);
        }

        void readChunks() {
            blockStart = output.size;
            base = output.size;
            chunkPlace = source.at;
            chunks = 0;
            model.reset();
            int need = 3;
            int control = source.next();
            for (int i = 0; i < MOST_INPUT && control != 0; i++) {
                judgeControl(control, need);
                if (control < 128) {
                    readPlain(control);
                    need = control == 1 ? 2 : Math.max(need, 1);
                } else {
                    readBits(output.size + readChunkHead(control));
                    endChunk();
                    need = 0;
                }
                chunks++;
                control = source.next();
            }
            packed = source.at - chunkPlace;
        }

        void judgeControl(int control, int need) {
            boolean first = need == 3;
            boolean wrong = control < 128 ? control > (first ? 1 : 2) : (control >> 5 & 3) < need;
            if (wrong) {
                source.fail(5);
            }
        }

        void readPlain(int control) {
            int bytes = source.high(2) + 1;
            if (control == 1) {
                base = output.size;
            }
            for (int i = 0; i < bytes; i++) {
                int b = source.next();
                if (output.size >= MOST_OUT) {
                    source.fail(13);
                }
                output.put(b);
            }
        }

        int readChunkHead(int control) {
            int kind = control >> 5 & 3;
            int bytes = ((control & 31) << 16 | source.high(2)) + 1;
            int bits = source.high(2) + 1;
            if (kind > 1) {
                readProperties();
            }
            if (kind > 0) {
                model.reset();
            }
            if (kind == 3) {
                base = output.size;
            }
            chunkEnd = source.at + bits;
            source.limit = Math.min(chunkEnd, source.row.size);
            return bytes;
        }

        void endChunk() {
            if (model.coder.code != 0) {
                source.fail(7);
            }
            if (source.at != chunkEnd) {
                source.fail(5);
            }
            source.limit = source.row.size;
        }

        void noteBlock() {
            ledger.addBlock(head.place, head.size, packed, output.size - blockStart, chunks);
        }

        void readStart() {
            expect(253, 2);
            expect(55, 2);
            expect(122, 2);
            expect(88, 2);
            expect(90, 2);
            expect(0, 2);
            expect(0, 8);
            checkKind = source.next();
            if (!Checks.isKind(checkKind)) {
                source.fail(14);
            }
            if ((int) source.low(4) != Checks.crc32(source.row, 6, 8)) {
                source.fail(9);
            }
        }

        void expect(int b, int rule) {
            if (source.next() != b) {
                source.fail(rule);
            }
        }

        boolean findBlock() {
            int first = source.next();
            head.place = source.at - 1;
            head.size = 4 * first + 4;
            return first != 0;
        }

        void readHead() {
            head.readSizes();
            head.readFilters();
            askMemory(head.dictionary);
            head.readRest();
        }

        void readTail() {
            int bytes = output.size - blockStart;
            boolean wrongPacked = head.toldPacked >= 0 && head.toldPacked != packed;
            if (wrongPacked || head.toldBytes >= 0 && head.toldBytes != bytes) {
                source.fail(8);
            }
            for (int i = 0; i < 3 && (source.at - head.place & 3) != 0; i++) {
                expect(0, 8);
            }
            head.undo(output, blockStart);
            checks.compute(checkKind, output, blockStart, output.size);
            boolean same = true;
            for (int i = 0; i < Checks.bytesOf(checkKind); i++) {
                same = source.next() == checks.byteOf(checkKind, i) && same;
            }
            if (!same) {
                source.fail(10);
            }
        }

        void readIndex() {
            expected.size = 0;
            ledger.putIndex(expected, Checks.bytesOf(checkKind));
            for (int i = 1; i < expected.size; i++) {
                expect(expected.get(i), 11);
            }
            if ((int) source.low(4) != Checks.crc32(expected, 0, expected.size)) {
                source.fail(9);
            }
        }

        void readFoot() {
            int crc = (int) source.low(4);
            long size = source.low(4);
            int flags = source.high(2);
            if (crc != Checks.crc32(source.row, source.at - 6, source.at)) {
                source.fail(9);
            }
            if (size != expected.size / 4 || flags != checkKind) {
                source.fail(11);
            }
            expect(89, 11);
            expect(90, 11);
        }
    }
}
