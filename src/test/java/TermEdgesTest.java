import java.nio.charset.StandardCharsets;
import java.util.Arrays;
import java.util.Random;

/** The edges that the Terms 1 BITS to 4 FORMS name, sentence by sentence; the RULES have a test of their own. */
public final class TermEdgesTest {
    private static final Due DUE = new Due("TermEdgesTest");

    public static void main(String[] args) {
        carries();
        plainBits();
        anyChoices();
        anyChunks();
        endMark();
        properties();
        states();
        literals();
        lengths();
        distances();
        backs();
        longest();
        levelZero();
        levelOne();
        levelTwo();
        shortTexts();
        parts();
        laterParts();
        longParts();
        chunkKinds();
        chunkStates();
        numbers();
        boxes();
        manyBlocks();
        filters();
        DUE.finish();
    }

    /** Bytes with some chains and few choices. */
    private static byte[] chained(int size, int seed) {
        Random r = new Random(seed);
        byte[] b = new byte[size];
        for (int i = 0; i < size;) {
            int far = 1 + r.nextInt(Math.max(1, i));
            int n = i == 0 || r.nextInt(3) == 0 ? 1 : 1 + r.nextInt(30);
            for (int k = 0; k < n && i < size; k++, i++) {
                b[i] = n == 1 ? (byte) r.nextInt() : b[i - far];
            }
        }
        return b;
    }

    /** What was packed in form 0 is, bit by bit, what its choices make. */
    private static Maker madeOf(String what, LzmaChains x, byte[] bytes, Maker m, boolean marked) {
        int n = x.step(-1, 0);
        for (int i = 0; i < n; i++) {
            int place = x.step(i, 1);
            int b = place < bytes.length ? bytes[place] & 255 : 0;
            m.choice(x.step(i, 0), x.step(i, 2), x.step(i, 3), b);
        }
        DUE.same(what, Due.brief(x), Due.brief(m.alone(marked ? -1 : bytes.length)));
        return m;
    }

    private static void opensAs(String what, Maker m, long size) {
        LzmaChains x = Due.fed(0, m.alone(size));
        DUE.same(what, x.open(4096), m.size());
        DUE.same(what + ": OUT", Due.brief(x), Due.brief(m.bytes()));
        DUE.same(what + ": STATE", x.state(), m.state());
    }

    private static void carries() {
        DUE.sentence("of the bytes that wait the first is BYTE, the others 255, each 1 more if LOW is 2^32 or more (256 being 0)");
        int carries = 0;
        int[] over = new int[3];
        // The last three seeds are ones with a carry over two bytes that were 255.
        for (int k = 0; k < 603; k++) {
            int seed = k < 600 ? k : new int[] {3001, 8471, 22470}[k - 600];
            byte[] bytes = chained(300, seed);
            LzmaChains x = Due.fed(0, bytes);
            x.pack(seed % 3);
            Maker m = madeOf("seed " + seed, x, bytes, new Maker(), false);
            carries += m.carries();
            over[Math.min(2, m.longestCarry())]++;
            DUE.same("(The first byte is so always 0.)", x.out(13), 0);
        }
        DUE.same("there were such bytes", carries > 1000 ? 1 : 0, 1);
        DUE.same("and such over 255", over[1] > 5 ? 1 : 0, 1);
        DUE.same("and such over 255, 255", over[2], 3);
    }

    private static void plainBits() {
        DUE.sentence("A plain bit: RANGE is halved; if CODE is RANGE or more: 1, CODE falls by it.");
        // The last bit that is 1 is a plain one, so that CODE is just RANGE there.
        int[] far = {145, 161, 177, 209, 225, 241, 273, 289, 321, 1041};
        for (int away : far) {
            Maker m = new Maker().literals("abcdefgh");
            while (m.size() < away) {
                m.match(Math.min(273, Math.max(2, away - m.size())), 8);
            }
            m.match(4, away);
            opensAs(away + " away as the last", m, m.size());
        }
    }

    /** Choices of all kinds in any order, so that each CHANCE is a CHANCE of its own. */
    private static void anyChoices() {
        DUE.sentence("2 CHOICES.");
        Random r = new Random(11);
        for (int k = 0; k < 400; k++) {
            int lc = r.nextInt(5);
            Maker m = new Maker().with(lc, r.nextInt(5 - lc), r.nextInt(5));
            m.literal(r.nextInt(256));
            while (m.size() < 2700 && m.read() < 1400) {
                anyChoice(m, r, k);
            }
            if (k % 2 == 0) {
                m.match(2 + r.nextInt(272), Maker.MARK);
            }
            opensAs("any choices " + k, m, k % 4 == 0 ? -1 : m.size());
        }
    }

    private static void anyChoice(Maker m, Random r, int k) {
        int n = r.nextInt(10) == 0 ? 2 + r.nextInt(272) : 2 + r.nextInt(k % 3 == 0 ? 3 : 20);
        int what = r.nextInt(8);
        if (what < 2) {
            m.literal(r.nextInt(k % 5 == 0 ? 256 : 40));
        } else if (what < 4) {
            m.match(n, 1 + r.nextInt(r.nextBoolean() ? m.reach() : Math.min(m.reach(), 140)));
        } else if (what < 6) {
            m.rep(r.nextInt(4), n);
        } else if (what == 6) {
            m.rep(0, n);
        } else {
            m.shortRep();
        }
    }

    /** Chunks of all kinds in any order that is allowed, each with choices of its own. */
    private static void anyChunks() {
        DUE.sentence("0 goes on, 1 all CHANCES, STATE, BACKS are as at first, 2 so, with new properties, 3 so, and the dictionary begins"
            + " anew");
        Random r = new Random(13);
        for (int k = 0; k < 300; k++) {
            Maker m = new Maker();
            byte[] all = {};
            int least = 3;
            int chunks = 0;
            while (m.size() < 2000 && all.length < 1300) {
                boolean plain = r.nextInt(4) == 0;
                int kind = least + r.nextInt(4 - least);
                if (plain) {
                    int control = least == 3 || r.nextInt(6) == 0 ? 1 : 2;
                    byte[] bytes = new byte[1 + r.nextInt(40)];
                    r.nextBytes(bytes);
                    m.plain(control, bytes);
                    all = Maker.join(all, Maker.plainChunk(control, bytes));
                    least = control == 1 ? 2 : Math.max(1, least);
                } else {
                    all = Maker.join(all, anyChunk(m, r, kind, k));
                    least = 0;
                }
                chunks++;
            }
            LzmaChains x = Due.fed(1, Maker.join(all, Maker.row(0)));
            DUE.same("any chunks " + k, x.open(4096), m.size());
            DUE.same("any chunks " + k + ": OUT", Due.brief(x), Due.brief(m.bytes()));
            DUE.same("any chunks " + k + ": STATE", x.state(), m.state());
            DUE.same("any chunks " + k + ": how many", x.block(0, 4), chunks);
        }
    }

    private static byte[] anyChunk(Maker m, Random r, int kind, int k) {
        m.chunk(kind);
        if (kind > 1) {
            int lc = r.nextInt(5);
            m.with(lc, r.nextInt(5 - lc), r.nextInt(5));
        }
        int before = m.size();
        int choices = 1 + r.nextInt(20);
        for (int i = 0; i < choices; i++) {
            if (m.reach() == 0) {
                m.literal(r.nextInt(256));
            } else {
                anyChoice(m, r, k);
            }
        }
        return m.bitChunk(kind, m.size() - before);
    }

    private static void endMark() {
        DUE.sentence("2^32 is the END MARK (any LENGTH; packing: 2)");
        String[] texts = {"", "A", "AAA", "abcabc", "abcabcabcXabc"};
        for (String text : texts) {
            LzmaChains x = Due.fed(0, text);
            x.property(7, 1);
            x.pack(0);
            int n = x.step(-1, 0);
            DUE.same("the last choice of " + text, Due.steps(x, n - 1, n), "7," + text.length() + ",0,0");
            Maker m = madeOf("bits of " + text, x, Due.text(text), new Maker(), true);
            DUE.same("STATE of " + text, x.state(), m.state());
        }
    }

    private static void properties() {
        DUE.sentence("Its CHANCES are those of (POS modulo 2^lp) times 2^lc and the highest lc bits of the byte before (0 without)");
        for (int lc = 0; lc <= 4; lc++) {
            for (int lp = 0; lp + lc <= 4; lp++) {
                for (int pb = 0; pb <= 4; pb++) {
                    byte[] bytes = chained(90, 100 * lc + 10 * lp + pb);
                    LzmaChains x = Due.fed(0, bytes);
                    x.property(0, 0);
                    x.property(1, lp);
                    x.property(0, lc);
                    x.property(2, pb);
                    x.property(7, pb % 2);
                    x.pack(lp % 3);
                    String what = "lc " + lc + ", lp " + lp + ", pb " + pb;
                    madeOf(what, x, bytes, new Maker().with(lc, lp, pb), pb % 2 == 1);
                    x.pass();
                    DUE.same(what + " opened", x.open(4096), 90);
                    DUE.same(what + " opened: OUT", Due.brief(x), Due.brief(bytes));
                }
            }
        }
    }

    private static void states() {
        DUE.sentence("STATE is 0 .. 11 (0 at first)");
        // L a LITERAL, M a MATCH, R a REP, S SHORT: the ways to STATE 0 .. 11.
        String[] ways = {"", "LMLL", "LRLL", "LSLL", "LML", "LRL", "LSL", "LM", "LR", "LS", "LMM", "LMR"};
        int[][] behind = {{0, 7, 8, 9}, {0, 7, 8, 9}, {0, 7, 8, 9}, {0, 7, 8, 9}, {1, 7, 8, 9}, {2, 7, 8, 9}, {3, 7, 8, 9},
            {4, 10, 11, 11}, {5, 10, 11, 11}, {6, 10, 11, 11}, {4, 10, 11, 11}, {5, 10, 11, 11}};
        for (int state = 0; state < 12; state++) {
            stateIs(ways[state], state);
            for (int k = state == 0 ? 3 : 0; k < 4; k++) {
                stateIs((state == 0 ? "L" : ways[state]) + "LMRS".charAt(k), behind[state][k]);
            }
        }
        for (int k = 0; k < 4; k++) {
            stateIs("L" + "LMRS".charAt(k), behind[0][k]);
        }
        stateIs("LMS", 11);
        stateIs("LMML", 4);
        stateIs("LMSL", 5);
    }

    private static void stateIs(String way, int due) {
        Maker m = new Maker();
        for (int i = 0; i < way.length(); i++) {
            char c = way.charAt(i);
            if (c == 'L') {
                m.literal(65 + 37 * i);
            } else if (c == 'M') {
                m.match(3, 1);
            } else if (c == 'R') {
                m.rep(0, 4);
            } else {
                m.shortRep();
            }
        }
        LzmaChains x = Due.fed(0, m.alone(m.size()));
        DUE.same("open of " + way, x.open(4096), m.size());
        DUE.same("STATE behind " + way, x.state(), due);
        m.mark();
        LzmaChains marked = Due.fed(0, m.alone(-1));
        marked.open(4096);
        DUE.same("STATE behind the END MARK of " + way, marked.state(), due < 7 ? 7 : 10);
    }

    private static void literals() {
        DUE.sentence("the TREE's m, and 256 more, and 256 more yet if M's bit there is 1, as long as all bits were as M's;"
            + " then m alone");
        for (int bit = 0; bit < 8; bit++) {
            for (int round = 0; round < 2; round++) {
                int b = round == 0 ? 0x5A : 0xA5;
                Maker m = new Maker();
                for (int i = 0; i < 12; i++) {
                    m.literal(b).shortRep().literal(b ^ 1 << bit).shortRep().literal(b ^ 255 >> bit);
                }
                opensAs("another bit " + bit, m, m.size());
            }
        }
        Maker same = new Maker().literal(7).shortRep().literal(7).match(2, 1).literal(7);
        opensAs("a LITERAL that is M", same, same.size());
    }

    private static void lengths() {
        DUE.sentence("bit A 0: 2 and a TREE of 3 (one set for each p); A 1, bit B 0: 10 and one of 3 (for each p); B 1: 18 and one"
            + " of 8. (2 .. 273.)");
        int[] edges = {2, 3, 8, 9, 10, 11, 16, 17, 18, 19, 145, 146, 272, 273};
        for (int length : edges) {
            Maker m = new Maker().literals("AB").match(length, 2).literals("x").rep(0, length).match(length, 1);
            opensAs("LENGTH " + length, m, m.size());
            LzmaChains x = Due.fed(0, m.alone(m.size()));
            x.open(4096);
            DUE.same("LENGTH of the MATCH", x.step(2, 2), length);
            DUE.same("LENGTH of the REP", x.step(4, 2), length);
            byte[] run = Due.run(length + 1, 65);
            LzmaChains packed = Due.fed(0, run);
            packed.pack(0);
            DUE.same("packed with " + length, Due.steps(packed), "0,0,1,0 2,1," + length + ",1");
            madeOf("bits of it", packed, run, new Maker(), false);
        }
        for (int p = 0; p < 16; p++) {
            Maker m = new Maker().with(0, 0, 4).literals("ABCDEFGHIJKLMNOP".substring(0, 1 + p));
            m.match(5, 1).rep(0, 6).match(12, 1).rep(0, 13).match(5, 1).rep(0, 12);
            opensAs("p " + p, m, m.size());
        }
    }

    private static void distances() {
        DUE.sentence("SLOT below 4: how far is SLOT and 1. .. SLOT below 14: TURNED .. else the highest k - 4 bits plain");
        int[] edges = {1, 2, 3, 4, 5, 6, 7, 8, 9, 12, 13, 16, 17, 24, 25, 32, 33, 48, 49, 64, 65, 96, 97, 127, 128, 129, 130, 191, 192,
            193, 256, 257, 384, 385, 512, 513, 768, 769, 1024, 1025, 1400};
        for (int far : edges) {
            for (int length = 2; length <= 6; length++) {
                Maker m = new Maker();
                m.literals("abcdefgh").match(273, 8);
                while (m.size() < far) {
                    m.rep(0, 200);
                }
                m.literals("XYZ").match(length, far).literals("q").match(length, far);
                opensAs(far + " away, LENGTH " + length, m, m.size());
            }
            byte[] bytes = twoRows(far);
            LzmaChains x = Due.fed(0, bytes);
            x.pack(0);
            int n = x.step(-1, 0);
            DUE.same(far + " away, packed", x.step(n - 1, 3), far);
            x.pass();
            DUE.same(far + " away, opened", x.open(4096), bytes.length);
            DUE.same(far + " away, OUT", Due.brief(x), Due.brief(bytes));
        }
        Maker least = new Maker().literals("A").match(2, 1).mark();
        opensAs("the END MARK, the farthest of all", least, -1);
    }

    /** A row whose last six bytes are those so far back, and nowhere nearer. */
    private static byte[] twoRows(int far) {
        byte[] b = new byte[far + 6];
        for (int i = 0; i < b.length; i++) {
            b[i] = (byte) (i < far ? i % 3 == 2 ? 128 + i / 3 % 128 : i < 6 ? 1 + i : 8 + i / 384 : 0);
        }
        for (int i = far; i < b.length; i++) {
            b[i] = b[i - far];
        }
        return b;
    }

    private static void backs() {
        DUE.sentence("BACKS: this one, and the first three. .. it goes to the front");
        int[][] orders = {{0, 1, 2, 3}, {3, 3, 3, 3}, {2, 2, 2, 1}, {1, 1, 1, 3}, {3, 0, 2, 1}, {0, 0, 3, 2}};
        int[][] due = {{8, 6, 4, 2}, {2, 4, 6, 8}, {4, 6, 8, 6}, {6, 8, 6, 2}, {2, 2, 6, 2}, {8, 8, 2, 6}};
        for (int k = 0; k < orders.length; k++) {
            Maker m = new Maker().literals("abcdefgh").match(2, 2).match(3, 4).match(4, 6).match(5, 8);
            for (int i : orders[k]) {
                m.rep(i, 3);
            }
            LzmaChains x = Due.fed(0, m.alone(m.size()));
            x.open(4096);
            for (int i = 0; i < 4; i++) {
                DUE.same("REP " + i + " of order " + k, x.step(12 + i, 3), due[k][i]);
            }
        }
        DUE.sentence("four BACKS, how far back, 0 nearest (1 each at first)");
        for (int i = 0; i < 4; i++) {
            LzmaChains x = Due.fed(0, new Maker().literals("AB").rep(i, 2).alone(4));
            x.open(4096);
            DUE.same("REP of BACK " + i, Due.outHex(x), "41424242");
        }
    }

    private static LzmaChains packed(int level, String text) {
        LzmaChains x = Due.fed(0, text);
        x.pack(level);
        return x;
    }

    private static void chosen(int level, String text, String due) {
        DUE.same("LEVEL " + level + " of " + text, Due.steps(packed(level, text)), due);
    }

    /** The last choices alone. */
    private static void chosenLast(String what, int level, byte[] bytes, int dictionary, String due) {
        LzmaChains x = Due.fed(0, bytes);
        x.property(3, dictionary);
        x.pack(level);
        int n = x.step(-1, 0);
        DUE.same(what, Due.steps(x, n - due.split(" ").length, n), due);
    }

    /** Bytes no two of which come twice in the same order. */
    private static byte[] apart(int size) {
        byte[] b = new byte[size];
        for (int i = 0; i < size; i++) {
            b[i] = (byte) (i < 256 ? i : 3 * i + 1);
        }
        return b;
    }

    private static void longest() {
        DUE.sentence("the LONGEST is the greatest LENGTH (273 at most) with which bytes from there on are those some way back"
            + " (1 .. the dictionary's size, not before its beginning), of equal ones the nearest");
        byte[] row = apart(400);
        for (int n = 272; n <= 275; n++) {
            byte[] twice = Maker.join(row, Maker.cut(row, n));
            String due = "1,400," + Math.min(n, 273) + ",400" + (n == 274 ? " 6,673,1,400" : n == 275 ? " 2,673,2,400" : "");
            chosenLast("a row of " + n + " again", 0, twice, 4096, due);
        }
        byte[] again = Maker.join(row, Maker.cut(row, 9));
        chosenLast("a dictionary of 400", 0, again, 400, "1,400,9,400");
        LzmaChains less = Due.fed(0, again);
        less.property(3, 399);
        less.pack(0);
        DUE.same("a dictionary of 399", less.step(-1, 0), 409);
        chosen(0, "abcXabcYYabc", "0,0,1,0 0,1,1,0 0,2,1,0 0,3,1,0 1,4,3,4 0,7,1,0 0,8,1,0 1,9,3,5");
        chosen(0, "A", "0,0,1,0");
        chosen(0, "AA", "0,0,1,0 6,1,1,1");
        chosen(0, "AAA", "0,0,1,0 2,1,2,1");
        DUE.sentence("In a box DELTA, then BRANCH go ahead of the chunks, each block for itself.");
        LzmaChains box = Due.fed(2, Maker.join(Due.run(40, 65), Due.run(40, 65)));
        box.property(5, 40);
        box.pack(0);
        DUE.same("no copy from the block before", Due.steps(box), "0,0,1,0 2,1,39,1 0,40,1,0 2,41,39,1");
    }

    private static void levelZero() {
        DUE.sentence("the greatest R i, of equal ones the least i: if it is 2 or more, and at least the LONGEST less 1: that.");
        chosen(0, "AAB", "0,0,1,0 6,1,1,1 0,2,1,0");
        chosen(0, "AAAB", "0,0,1,0 2,1,2,1 0,3,1,0");
        // At "EF" R 0 is 2, and 7 away; the LONGEST is 3, then 4.
        String front = "0,0,1,0 0,1,1,0 0,2,1,0 0,3,1,0 0,4,1,0 0,5,1,0 0,6,1,0 0,7,1,0 1,8,2,8 0,10,1,0 1,11,3,7 0,14,1,0 ";
        chosen(0, "EFhiABCDEFGABCxEFhZ", front + "2,15,2,7 0,17,1,0 0,18,1,0");
        chosen(0, "EFhiABCDEFGABCxEFhiZ", front + "1,15,4,15 0,19,1,0");
        chosen(0, "aacaaaaa", "0,0,1,0 6,1,1,1 0,2,1,0 1,3,2,3 3,5,3,1");
        DUE.sentence("Else the LONGEST, if it is 3 or more, or 2 and not above 128 away.");
        for (int away = 126; away <= 131; away++) {
            byte[] row = Maker.join(apart(away), Maker.row(0, 1, 255));
            int n = away + 1;
            String due = away <= 128 ? "1," + away + ",2," + away + " 0," + (away + 2) + ",1,0"
                : "0," + away + ",1,0 0," + n + ",1,0 0," + (away + 2) + ",1,0";
            chosenLast("two " + away + " away", 0, row, 4096, due);
            byte[] three = Maker.join(apart(away), Maker.row(0, 1, 2));
            chosenLast("three " + away + " away", 0, three, 4096, "1," + away + ",3," + away);
        }
        DUE.sentence("Else, if R 0 is 1: SHORT. Else a LITERAL.");
        chosen(0, "abcXabcYbQ", "0,0,1,0 0,1,1,0 0,2,1,0 0,3,1,0 1,4,3,4 0,7,1,0 0,8,1,0 0,9,1,0");
        chosen(0, "abcXabcYaQ", "0,0,1,0 0,1,1,0 0,2,1,0 0,3,1,0 1,4,3,4 0,7,1,0 6,8,1,4 0,9,1,0");
        DUE.same("R 1 is 1, R 0 is none", Due.steps(packed(0, "abcXabcYYQ"), 5, 8), "0,7,1,0 0,8,1,0 0,9,1,0");
    }

    private static void naive(String what, int level, byte[] bytes) {
        LzmaChains x = Due.fed(0, bytes);
        x.pack(level);
        Naive naive = new Naive(bytes, 4096);
        DUE.same("LEVEL " + level + " of " + what, Due.steps(x), naive.steps(level));
        DUE.same("STATE of " + what, x.state(), naive.state());
    }

    private static void levelOne() {
        DUE.sentence("LEVEL 1: as 0; but if that is no LITERAL, no SHORT, its LENGTH is below 32, and at the next place (with the same"
            + " BACKS) what 0 chooses there has a LENGTH of 2 more or above: a LITERAL first.");
        lazily(4, 4, "1,%d,4,");
        lazily(4, 5, "1,%d,4,");
        lazily(4, 6, "0,%d,1,0 1,");
        lazily(4, 7, "0,%d,1,0 1,");
        lazily(30, 32, "0,%d,1,0 1,");
        lazily(31, 32, "1,%d,31,");
        lazily(31, 33, "0,%d,1,0 1,");
        lazily(32, 34, "1,%d,32,");
        lazily(33, 36, "1,%d,33,");
        chosen(1, "XYZaaXYZ", "0,0,1,0 0,1,1,0 0,2,1,0 0,3,1,0 6,4,1,1 1,5,3,5");
        chosen(1, "AAA", "0,0,1,0 2,1,2,1");
    }

    /** A row that comes twice so long, and from its second byte on so long. */
    private static void lazily(int here, int next, String due) {
        byte[] row = new byte[60];
        for (int i = 0; i < row.length; i++) {
            row[i] = (byte) (100 + i);
        }
        byte[] first = Arrays.copyOfRange(row, 0, here);
        byte[] second = Arrays.copyOfRange(row, 1, 1 + next);
        byte[] whole = Arrays.copyOfRange(row, 0, Math.max(here, 1 + next));
        byte[] bytes = Maker.join(Maker.row(1), first, Maker.row(2), second, Maker.row(3), whole);
        int place = bytes.length - whole.length;
        LzmaChains x = Due.fed(0, bytes);
        x.pack(1);
        int n = x.step(-1, 0);
        int at = 0;
        while (at < n && x.step(at, 1) < place) {
            at++;
        }
        String got = Due.steps(x, at, n);
        String want = String.format(due, place);
        DUE.same(here + " here, " + next + " at the next place", got.substring(0, Math.min(got.length(), want.length())), want);
    }

    private static void levelTwo() {
        DUE.sentence("LEVEL 2: the row of least COST from here to the end .. Of equal ones the longer step first.");
        String[] texts = {"AA", "AAA", "AAAB", "abab", "ababab", "abcabd", "abXab", "ddccdd", "aacaaaaa",
            "ffffdbffdbffdbffdbffdbffff", "hfeeehfeeehfeeehfeeehfehf", "abcdefghijabcdefghiabcdefghij",
            "abcdefghijklmnopqrabcdefghijklmnopqr", "abcdefghijklmnopqrsabcdefghijklmnopqrXbcdefghijklmnopqrs"};
        for (String text : texts) {
            naive(text, 2, Due.text(text));
        }
        for (int n = 2; n < 24; n++) {
            byte[] row = Arrays.copyOfRange(apart(90), 30, 30 + n);
            for (int gap = 0; gap < 60; gap += 7) {
                naive("rows of " + n + ", " + gap + " apart", 2, Maker.join(row, Maker.cut(apart(90), gap % 28), row, Maker.row(7), row));
            }
        }
        DUE.sentence("7, 3 if its LENGTH is above 9, 5 more if above 17, and the number of bits of how far");
        // 17, 9, 13 are 15 + 9 + 15; 20 and 19 would be 20 + 20.
        chosenLast("17 and 9, not 20", 2, Due.text("ZdMkwzmoKPfvsLsLsLsLZdMkwzmoKPfvsLsLsLsLsLsLsLsLZdMkwzmoKPf"), 4096,
            "1,14,6,2 1,20,17,20 3,37,9,2 1,46,13,28");
        DUE.sentence("(A LITERAL goes as SHORT, if R 0 is 1 or more and STATE is 7 or more.)");
        chosen(2, "AA", "0,0,1,0 0,1,1,0");
        byte[] period = new byte[279];
        for (int i = 0; i < period.length; i++) {
            period[i] = (byte) (97 + i % 5);
        }
        chosenLast("behind a copy of 273", 2, period, 4096, "0,4,1,0 1,5,273,5 6,278,1,5");
        LzmaChains x = Due.fed(1, Maker.join(Due.run(31, 65), Due.run(29, 66)));
        x.property(4, 30);
        x.pack(2);
        DUE.same("at a chunk's beginning", Due.steps(x), "0,0,1,0 2,1,29,1 6,30,1,1 0,31,1,0 2,32,28,1");
    }

    /** All texts of up to eight letters of two, up to seven of three; and longer ones at random. */
    private static void shortTexts() {
        DUE.sentence("3 CHOOSING.");
        for (int letters = 2; letters <= 3; letters++) {
            int most = letters == 2 ? 8 : 7;
            for (int size = 1; size <= most; size++) {
                int all = (int) Math.round(Math.pow(letters, size));
                for (int k = 0; k < all; k++) {
                    byte[] b = new byte[size];
                    int rest = k;
                    for (int i = 0; i < size; i++) {
                        b[i] = (byte) (97 + rest % letters);
                        rest /= letters;
                    }
                    naive(new String(b, StandardCharsets.US_ASCII), k % 3, b);
                }
            }
        }
        Random r = new Random(5);
        for (int k = 0; k < 600; k++) {
            byte[] b = new byte[20 + r.nextInt(50)];
            int letters = 2 + r.nextInt(5);
            for (int i = 0; i < b.length; i++) {
                b[i] = (byte) (97 + r.nextInt(letters));
            }
            naive("text " + k, k % 3, b);
            naive("bytes " + k, k % 3, chained(80, k));
        }
    }

    /** All choices, each asked for once, so that an object's 512 calls last. */
    private static int[][] choices(LzmaChains x) {
        int[][] all = new int[x.step(-1, 0)][4];
        for (int i = 0; i < all.length; i++) {
            for (int k = 0; k < 4; k++) {
                all[i][k] = x.step(i, k);
            }
        }
        return all;
    }

    private static byte[] rebuilt(LzmaChains x, byte[] bytes, int chunk) {
        return rebuilt(choices(x), bytes, 0, bytes.length, chunk, new Maker());
    }

    /** The chunks that the choices of a packing make of a block; a part without choices is plain. */
    private static byte[] rebuilt(int[][] choices, byte[] bytes, int base, int end, int chunk, Maker m) {
        byte[] all = {};
        int next = 3;
        boolean bitsBefore = false;
        for (int from = base; from < end; from += chunk) {
            int to = Math.min(end, from + chunk);
            boolean bits = false;
            for (int[] c : choices) {
                if (c[1] >= from && c[1] < to) {
                    if (!bits) {
                        m.chunk(next);
                    }
                    m.choice(c[0], c[2], c[3], bytes[c[1]] & 255);
                    bits = true;
                }
            }
            if (bits) {
                all = Maker.join(all, m.bitChunk(next, to - from));
                bitsBefore = true;
                next = 0;
            } else {
                byte[] part = Arrays.copyOfRange(bytes, from, to);
                int control = from == base ? 1 : 2;
                m.plain(control, part);
                all = Maker.join(all, Maker.plainChunk(control, part));
                next = bitsBefore ? 1 : 2;
            }
        }
        return Maker.join(all, Maker.row(0));
    }

    private static void parts() {
        DUE.sentence("unless they are not fewer than the bytes: then plain");
        int just = 0;
        int fewer = 0;
        for (int n = 0; n <= 60; n++) {
            for (int letters = 1; letters <= 20; letters++) {
                byte[] bytes = chained(n, 50 * n + letters);
                for (int i = 0; i < n; i++) {
                    bytes[i] = (byte) ((bytes[i] & 255) % letters);
                }
                LzmaChains alone = Due.fed(0, bytes);
                alone.pack(0);
                int bits = alone.count(1) - 13;
                just += bits == n ? 1 : 0;
                fewer += bits == n - 1 ? 1 : 0;
                LzmaChains x = Due.fed(1, bytes);
                x.pack(0);
                byte[] plain = n == 0 ? Maker.row(0) : BoxMaker.plainChunks(bytes);
                byte[] due = n > 0 && bits < n ? Maker.join(Maker.row(224, 0, n - 1, 0, bits - 1, 93), bitsOf(alone), Maker.row(0)) : plain;
                DUE.same(n + " bytes of " + letters + " letters, " + bits + " packed", Due.brief(x), Due.brief(due));
            }
        }
        DUE.same("as many were among them", just > 5 ? 1 : 0, 1);
        DUE.same("one fewer was among them", fewer > 5 ? 1 : 0, 1);
        DUE.sentence("PACKING: parts of CHUNK bytes");
        int[] chunks = {1, 2, 19, 20, 21, 39, 40, 41, 1500};
        for (int chunk : chunks) {
            LzmaChains x = Due.fed(1, Due.run(40, 65));
            x.property(4, chunk);
            x.pack(0);
            DUE.same("40 in parts of " + chunk, x.block(0, 4), (40 + chunk - 1) / chunk);
            DUE.same("bytes of it", Due.brief(x), Due.brief(rebuilt(x, Due.run(40, 65), chunk)));
        }
    }

    private static void laterParts() {
        DUE.sentence("At a place, to the end, with what is behind it");
        byte[] run = Due.run(90, 65);
        String due = "0,0,1,0 2,1,29,1 2,30,30,1 2,60,30,1";
        for (int level = 0; level < 3; level++) {
            LzmaChains x = Due.fed(1, run);
            x.property(4, 30);
            x.pack(level);
            DUE.same("LEVEL " + level + " in three parts", Due.steps(x), due);
            DUE.same("bytes of them", Due.brief(x), Due.brief(rebuilt(x, run, 30)));
        }
        for (int k = 0; k < 90; k++) {
            byte[] bytes = chained(150, k);
            LzmaChains x = Due.fed(1, bytes);
            x.property(4, 20 + k);
            x.pack(k % 3);
            DUE.same("bytes " + k, Due.brief(x), Due.brief(rebuilt(x, bytes, 20 + k)));
        }
    }

    private static void longParts() {
        DUE.sentence("how many bytes less 1; two bytes: how many packed ones less 1");
        int[] sizes = {255, 256, 257, 258, 511, 512, 513, 1023, 1024, 1025, 1499, 1500};
        for (int size : sizes) {
            byte[] bytes = Due.wild(size);
            for (int i = 0; i < size; i++) {
                bytes[i] = (byte) (bytes[i] & 31);
            }
            for (int level = 0; level < 3; level++) {
                LzmaChains alone = Due.fed(0, bytes);
                int bits = alone.pack(level) - 13;
                LzmaChains x = Due.fed(1, bytes);
                x.property(4, 1500);
                DUE.same(size + " in one part", x.pack(level), 6 + bits + 1);
                String head = Due.hex(Maker.row(224, size - 1 >> 8, size - 1, bits - 1 >> 8, bits - 1, 93));
                StringBuilder got = new StringBuilder();
                for (int i = 0; i < 6; i++) {
                    got.append(String.format("%02x", x.out(i)));
                }
                DUE.same("its head", got.toString(), head);
                x.pass();
                DUE.same("opened", x.open(4096), size);
                DUE.same("OUT", Due.brief(x), Due.brief(bytes));
                LzmaChains box = Due.fed(2, bytes);
                box.property(4, 1500);
                box.property(5, 1500);
                box.pack(level);
                DUE.same("in a box", Due.blocks(box), "12,12," + (6 + bits + 1) + "," + size + ",1");
            }
        }
        StringBuilder seen = new StringBuilder();
        for (int size = 300; size < 340; size++) {
            byte[] bytes = Due.wild(size);
            for (int i = 0; i < size; i++) {
                bytes[i] = (byte) (bytes[i] & 31);
            }
            LzmaChains x = Due.fed(1, bytes);
            int packed = x.pack(0) - 7;
            seen.append(packed == 256 || packed == 257 ? "" + packed + " " : "");
            DUE.same("how many packed of " + size, 256 * x.out(3) + x.out(4), packed - 1);
        }
        DUE.same("the edges were among them", seen.indexOf("256") >= 0 && seen.indexOf("257") >= 0 ? 1 : 0, 1);
        LzmaChains most = Due.fed(0, Due.run(1500, 65));
        for (int level = 0; level < 3; level++) {
            most.pack(level);
            most.pass();
            DUE.same("1,500 equal ones opened", most.open(4096), 1500);
            most.pass();
        }
    }

    private static byte[] bitsOf(LzmaChains alone) {
        byte[] all = Due.out(alone);
        return Arrays.copyOfRange(all, 13, all.length);
    }

    private static void chunkKinds() {
        DUE.sentence("with bits (the first 3, others 0, or 1 behind a plain one; 2, if none with bits was before) .. then plain (the"
            + " first 1, others 2");
        kinds("r", "224");
        kinds("rr", "224 128");
        kinds("rrr", "224 128 128");
        kinds("w", "1");
        kinds("ww", "1 2");
        kinds("wr", "1 192");
        kinds("wwr", "1 2 192");
        kinds("wrr", "1 192 128");
        kinds("wrwr", "1 192 2 160");
        kinds("rwr", "224 2 160");
        kinds("rwwr", "224 2 2 160");
        kinds("rwrr", "224 2 160 128");
        kinds("rwrwr", "224 2 160 2 160");
        kinds("rrwwrrw", "224 128 2 2 160 128 2");
    }

    /** Parts of thirty bytes: r a run, w wild ones. */
    private static void kinds(String parts, String due) {
        byte[] wild = Due.wild(300);
        byte[] bytes = {};
        for (int i = 0; i < parts.length(); i++) {
            byte[] part = parts.charAt(i) == 'r' ? Due.run(30, 65 + i) : Arrays.copyOfRange(wild, 30 * i, 30 * i + 30);
            bytes = Maker.join(bytes, part);
        }
        for (int level = 0; level < 3; level++) {
            LzmaChains x = Due.fed(1, bytes);
            x.property(4, 30);
            x.pack(level);
            byte[] out = Due.out(x);
            StringBuilder got = new StringBuilder();
            for (int at = 0; out[at] != 0;) {
                int control = out[at] & 255;
                got.append(at == 0 ? "" : " ").append(control);
                at += control < 128 ? 33 : 5 + (control >= 192 ? 1 : 0) + (out[at + 4] & 255) + 1;
            }
            DUE.same("chunks of " + parts, got.toString(), due);
            DUE.same("bytes of " + parts, Due.brief(x), Due.brief(rebuilt(x, bytes, 30)));
            DUE.same("how many chunks", x.block(0, 4), parts.length());
        }
    }

    private static void chunkStates() {
        DUE.sentence("CHANCES, STATE, BACKS are as before it then");
        byte[] bytes = Maker.join(Due.run(30, 65), Due.wild(30));
        LzmaChains x = Due.fed(1, bytes);
        x.property(4, 30);
        x.pack(0);
        DUE.same("STATE behind a run and a plain chunk", x.state(), 8);
        x.pass();
        x.open(4096);
        DUE.same("opened", x.state(), 8);
        DUE.sentence("CHANCES, STATE and BACKS are as at first ahead of the first chunk (of each block).");
        LzmaChains box = Due.fed(2, bytes);
        box.property(5, 30);
        box.pack(0);
        DUE.same("STATE behind a block of a run and a plain block", box.state(), 0);
        box.pass();
        box.open(4096);
        DUE.same("opened", box.state(), 0);
        LzmaChains twice = Due.fed(2, Maker.join(Due.run(30, 65), Due.run(30, 65)));
        twice.property(5, 30);
        twice.pack(0);
        byte[] out = Due.out(twice);
        int size = twice.block(1, 0) - twice.block(0, 0);
        String first = Due.hex(Arrays.copyOfRange(out, 12, 12 + size));
        DUE.same("two equal blocks", Due.hex(Arrays.copyOfRange(out, 12 + size, 12 + 2 * size)), first);
        LzmaChains again = Due.fed(1, Due.run(30, 65));
        again.pack(0);
        String one = Due.outHex(again);
        Due.put(again, Due.run(30, 65));
        again.pack(0);
        DUE.same("packed again", Due.outHex(again), one);
    }

    private static void numbers() {
        DUE.sentence("V: 7 bits in each byte, the lowest first, 128 more where another one comes");
        int[] sizes = {1, 107, 108, 109, 110, 111, 112, 126, 127, 128, 129, 255, 256, 1023, 1024, 1025, 1400};
        for (int size : sizes) {
            byte[] bytes = Due.wild(size);
            LzmaChains x = Due.fed(2, bytes);
            x.property(4, 1500);
            x.property(5, 1500);
            x.pack(0);
            DUE.same("a box of " + size, Due.brief(x), Due.brief(BoxMaker.plainBox(1, bytes)));
        }
        LzmaChains many = Due.fed(2, Due.wild(128));
        many.property(5, 1);
        many.property(6, 0);
        many.pack(0);
        DUE.same("128 blocks", many.block(-1, 0), 128);
        byte[] blocks = {};
        int[] told = new int[256];
        for (int i = 0; i < 128; i++) {
            blocks = Maker.join(blocks, BoxMaker.plainBlock(0, Maker.row(Due.wild(128)[i])));
            told[2 * i] = 17;
            told[2 * i + 1] = 1;
        }
        DUE.same("a box of them", Due.brief(many), Due.brief(BoxMaker.box(0, blocks, BoxMaker.index(told))));
    }

    private static void boxes() {
        DUE.sentence("0s to a multiple of four (from the head on); the check.");
        int[] kinds = {0, 1, 4, 10};
        for (int kind : kinds) {
            DUE.same("an empty box", Due.outHex(boxed(kind, 0)), Due.hex(BoxMaker.box(kind, new byte[0], BoxMaker.index())));
            for (int size = 1; size <= 9; size++) {
                byte[] bytes = Due.wild(size);
                DUE.same(size + " bytes, check " + kind, Due.brief(boxed(kind, size)), Due.brief(BoxMaker.plainBox(kind, bytes)));
            }
        }
        DUE.sentence("BLOCKS of BLOCK bytes");
        int[] sizes = {1, 7, 8, 9, 15, 16, 17};
        for (int size : sizes) {
            LzmaChains x = Due.fed(2, Due.wild(size));
            x.property(5, 8);
            x.pack(0);
            DUE.same(size + " in blocks of 8", x.block(-1, 0), (size + 7) / 8);
            x.pass();
            DUE.same("opened", x.open(4096), size);
            DUE.same("bytes", Due.outHex(x), Due.hex(Due.wild(size)));
        }
    }

    /** Blocks with bits, of odd sizes too, each with its check, as their choices make them. */
    private static void manyBlocks() {
        DUE.sentence("Then form 1; 0s to a multiple of four (from the head on); the check.");
        int[] kinds = {0, 1, 4, 10};
        for (int k = 0; k < 60; k++) {
            byte[] bytes = chained(200, 1000 + k);
            int block = 21 + 3 * k;
            int chunk = 15 + 2 * k;
            int kind = kinds[k % 4];
            LzmaChains x = Due.fed(2, bytes);
            x.property(4, chunk);
            x.property(5, block);
            x.property(6, kind);
            x.pack(k % 3);
            int[][] choices = choices(x);
            byte[] blocks = {};
            byte[] told = Maker.join(Maker.row(0), BoxMaker.v((200 + block - 1) / block));
            for (int from = 0; from < 200; from += block) {
                int to = Math.min(200, from + block);
                byte[] part = Arrays.copyOfRange(bytes, from, to);
                byte[] chunks = rebuilt(choices, bytes, from, to, chunk, new Maker());
                blocks = Maker.join(blocks, BoxMaker.block(kind, BoxMaker.head(), chunks, part));
                int size = 12 + chunks.length + BoxMaker.check(kind, part).length;
                told = Maker.join(told, BoxMaker.v(size), BoxMaker.v(to - from));
            }
            byte[] due = BoxMaker.box(kind, blocks, BoxMaker.closed(told));
            DUE.same("a box of blocks of " + block, Due.brief(x), Due.brief(due));
            for (int times = 0; times < 2; times++) {
                Due.put(x, due);
                DUE.same("opened", x.open(4096), 200);
                DUE.same("bytes", Due.brief(x), Due.brief(bytes));
            }
        }
    }

    private static LzmaChains boxed(int kind, int size) {
        LzmaChains x = Due.fed(2, Due.wild(size));
        x.property(6, kind);
        x.pack(0);
        return x;
    }

    private static void filters() {
        DUE.sentence("3 DELTA (1: distance less 1), 7 BRANCH (none)");
        int[] distances = {0, 1, 2, 255, 256};
        for (int distance : distances) {
            for (int branch = 0; branch < 2; branch++) {
                for (int size = 300; size < 304; size++) {
                    filtered(distance, branch, size);
                }
                DUE.sentence("In a box DELTA, then BRANCH go ahead of the chunks, each block for itself.");
                for (int block = 37; block < 45; block++) {
                    filteredBlocks(Math.min(distance, 5), branch, block);
                }
            }
        }
    }

    private static void filteredBlocks(int distance, int branch, int block) {
        byte[] bytes = Due.wild(3 * block + 2);
        for (int i = 0; i < bytes.length; i++) {
            bytes[i] = i % 7 == 3 || bytes[i] > 0 ? (byte) 235 : bytes[i];
        }
        byte[] blocks = {};
        byte[] told = Maker.row(0, 4);
        for (int from = 0; from < bytes.length; from += block) {
            byte[] part = Arrays.copyOfRange(bytes, from, Math.min(bytes.length, from + block));
            LzmaChains one = Due.fed(2, part);
            set(one, distance, branch, block);
            one.pack(0);
            byte[] out = Due.out(one);
            int size = one.block(0, 1) + one.block(0, 2) + 4;
            blocks = Maker.join(blocks, Arrays.copyOfRange(out, 12, 12 + (size + 3) / 4 * 4));
            told = Maker.join(told, BoxMaker.v(size), BoxMaker.v(part.length));
        }
        LzmaChains x = Due.fed(2, bytes);
        set(x, distance, branch, block);
        x.pack(0);
        byte[] due = BoxMaker.box(1, blocks, BoxMaker.closed(told));
        DUE.same("DELTA " + distance + ", BRANCH " + branch + " in blocks of " + block, Due.brief(x), Due.brief(due));
        x.pass();
        DUE.same("opened", x.open(4096), bytes.length);
        DUE.same("bytes", Due.brief(x), Due.brief(bytes));
    }

    private static void set(LzmaChains x, int distance, int branch, int block) {
        x.filter(0, distance);
        x.filter(1, branch);
        x.property(5, block);
    }

    private static void filtered(int distance, int branch, int size) {
        byte[] bytes = Due.wild(size);
        for (int i = 3; i < size; i += 8) {
            bytes[i] = (byte) 235;
        }
        byte[] turned = bytes.clone();
        for (int i = distance; i < size && distance > 0; i++) {
            turned[i] = (byte) (bytes[i] - bytes[i - distance]);
        }
        for (int i = 0; i + 4 <= size && branch == 1; i += 4) {
            if ((turned[i + 3] & 255) == 235) {
                long three = (turned[i] & 255) + 256L * (turned[i + 1] & 255) + 65536L * (turned[i + 2] & 255);
                byte[] now = Maker.number((three * 4 + i + 8) % (1L << 26) / 4, 3);
                System.arraycopy(now, 0, turned, i, 3);
            }
        }
        byte[] head = distance == 0 ? branch == 0 ? BoxMaker.head() : BoxMaker.head(1, 7, 0, 33, 1, 0)
            : branch == 0 ? BoxMaker.head(1, 3, 1, distance - 1, 33, 1, 0) : BoxMaker.head(2, 3, 1, distance - 1, 7, 0, 33, 1, 0);
        byte[] due = BoxMaker.boxOf(4, head, BoxMaker.plainChunks(turned), bytes);
        LzmaChains x = Due.fed(2, bytes);
        x.property(6, 4);
        x.filter(0, distance);
        x.filter(1, branch);
        x.pack(0);
        DUE.same("DELTA " + distance + ", BRANCH " + branch + " of " + size, Due.brief(x), Due.brief(due));
        x.pass();
        DUE.same("opened", x.open(4096), size);
        DUE.same("bytes", Due.brief(x), Due.brief(bytes));
    }
}
