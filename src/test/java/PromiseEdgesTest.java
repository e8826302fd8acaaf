import java.util.Arrays;

/**
 * The edges that promises 1 to 17 name, sentence by sentence: too small, too large, empty, full, a
 * wrap-around, a refused call. Each method has the sentences of one promise.
 */
public final class PromiseEdgesTest {
    private static final Due DUE = new Due("PromiseEdgesTest");
    private static final int MOST = Integer.MAX_VALUE;
    private static final int LEAST = Integer.MIN_VALUE;
    private static final int BAD = LzmaChains.BAD;
    private static final int FULL = LzmaChains.FULL;

    public static void main(String[] args) {
        calls();
        form();
        defaults();
        coding();
        dictionary();
        shape();
        refusedProperty();
        filter();
        feed();
        end();
        octet();
        packEmpty();
        packBad();
        packFull();
        boxFull();
        open();
        openBox();
        again();
        rule();
        pass();
        out();
        steps();
        manySteps();
        plainSteps();
        state();
        blocks();
        chunkBlock();
        check();
        delta();
        branch();
        refusedTurn();
        count();
        DUE.finish();
    }

    /** All that can be asked for, but the input's bytes. */
    private static String all(LzmaChains x) {
        return x.count(0) + " " + x.rule() + " " + x.state() + "|" + Due.outHex(x) + "|" + x.step(-1, 0) + ":"
            + Due.steps(x) + "|" + x.block(-1, 0) + ":" + Due.blocks(x);
    }

    /** Of an object of form 1, with bytes that stay plain. */
    private static void inputIs(String call, LzmaChains x, byte[] due) {
        x.property(4, 1500);
        x.pack(0);
        DUE.same(call, Due.brief(x), Due.brief(BoxMaker.plainChunks(due)));
    }

    private static LzmaChains packed(int form, byte[] bytes) {
        LzmaChains x = Due.fed(form, bytes);
        x.pack(0);
        return x;
    }

    /** An object whose OUT is these bytes. */
    private static LzmaChains holding(byte[] bytes) {
        byte[] chunks = bytes.length == 0 ? new byte[1] : BoxMaker.plainChunks(bytes);
        LzmaChains x = Due.fed(1, chunks);
        x.open(4096);
        return x;
    }

    private static void calls() {
        DUE.sentence("An object is used for at most 512 calls after it has been made");
        LzmaChains x = new LzmaChains(0);
        for (int i = 1; i <= 509; i++) {
            x.octet(65);
        }
        x.pack(1);
        x.pass();
        DUE.same("open as the 512th call", x.open(4096), 509);
    }

    private static void form() {
        DUE.sentence("Form 0, 1, 2 (another number: 0).");
        int[] forms = {0, 1, 2, 3, 4, -1, -2, 256, 257, 258, MOST, LEAST};
        for (int form : forms) {
            LzmaChains x = packed(form, Due.text("A"));
            int first = form == 1 ? 1 : form == 2 ? 253 : 93;
            DUE.same("first byte of form " + form, x.out(0), first);
            DUE.same("dictionary 1 in form " + form, x.property(3, 1), form == 2 ? 0 : 1);
        }
    }

    private static void defaults() {
        DUE.sentence("Input empty; lc 3, lp 0, pb 2, dictionary 4,096, CHUNK 512, BLOCK 1,024, check 1, no filters,"
            + " no END MARK.");
        LzmaChains x = new LzmaChains(0);
        DUE.same("input", x.count(0), 0);
        DUE.same("OUT", x.count(1), 0);
        x.octet(65);
        x.pack(0);
        DUE.same("lc 3, lp 0, pb 2; 4,096; the size is told", Due.outHex(x).substring(0, 26),
            "5d" + "00100000" + "0100000000000000");
        DUE.same("no END MARK", Due.steps(x), "0,0,1,0");
        DUE.same("512 bytes", packed(1, Due.wild(512)).block(0, 4), 1);
        DUE.same("513 bytes", packed(1, Due.wild(513)).block(0, 4), 2);
        DUE.same("1,024 bytes", packed(2, Due.wild(1024)).block(-1, 0), 1);
        DUE.same("1,025 bytes", packed(2, Due.wild(1025)).block(-1, 0), 2);
        LzmaChains box = packed(2, Due.text("ab"));
        DUE.same("the check's kind", box.out(7), 1);
        DUE.same("no filters: one filter less 1", box.out(13), 0);
    }

    private static void coding() {
        DUE.sentence("0 lc, 1 lp (together at most 4), 2 pb (0 .. 4)");
        for (int lc = -1; lc <= 5; lc++) {
            for (int lp = -1; lp <= 5; lp++) {
                LzmaChains x = new LzmaChains(1);
                x.property(0, 0);
                boolean first = lc >= 0 && lc <= 4;
                boolean second = lp >= 0 && lp <= (first ? 4 - lc : 4);
                DUE.same("lc " + lc, x.property(0, lc), first ? 1 : 0);
                DUE.same("lp " + lp + " behind lc " + lc, x.property(1, lp), second ? 1 : 0);
                LzmaChains y = new LzmaChains(2);
                y.property(0, 0);
                boolean third = lp >= 0 && lp <= 4;
                boolean fourth = lc >= 0 && lc <= (third ? 4 - lp : 4);
                DUE.same("lp " + lp, y.property(1, lp), third ? 1 : 0);
                DUE.same("lc " + lc + " behind lp " + lp, y.property(0, lc), fourth ? 1 : 0);
            }
        }
        for (int pb = -1; pb <= 5; pb++) {
            DUE.same("pb " + pb, new LzmaChains(0).property(2, pb), pb >= 0 && pb <= 4 ? 1 : 0);
        }
    }

    private static void dictionary() {
        DUE.sentence("3 the dictionary's size (1 .. 4,096; form 2: 4,096 alone)");
        int[] sizes = {LEAST, -1, 0, 1, 2, 4095, 4096, 4097, 8192, MOST};
        for (int size : sizes) {
            boolean right = size >= 1 && size <= 4096;
            DUE.same(size + " in form 0", new LzmaChains(0).property(3, size), right ? 1 : 0);
            DUE.same(size + " in form 1", new LzmaChains(1).property(3, size), right ? 1 : 0);
            DUE.same(size + " in form 2", new LzmaChains(2).property(3, size), size == 4096 ? 1 : 0);
        }
    }

    private static void shape() {
        DUE.sentence("4 CHUNK (1 .. 1,500), 5 BLOCK (1 .. 1,500), 6 the check's kind, 7 the END MARK of form 0 (0, 1)");
        int[] sizes = {LEAST, -1, 0, 1, 1499, 1500, 1501, MOST};
        for (int size : sizes) {
            int right = size >= 1 && size <= 1500 ? 1 : 0;
            DUE.same("CHUNK " + size, new LzmaChains(1).property(4, size), right);
            DUE.same("BLOCK " + size, new LzmaChains(2).property(5, size), right);
        }
        for (int kind = -1; kind < 300; kind++) {
            int right = kind == 0 || kind == 1 || kind == 4 || kind == 10 ? 1 : 0;
            DUE.same("check " + kind, new LzmaChains(2).property(6, kind), right);
        }
        int[] marks = {LEAST, -1, 0, 1, 2, MOST};
        for (int mark : marks) {
            DUE.same("END MARK " + mark, new LzmaChains(0).property(7, mark), mark == 0 || mark == 1 ? 1 : 0);
        }
        DUE.sentence("1. 0: none such");
        int[] none = {LEAST, -2, -1, 8, 9, MOST};
        for (int what : none) {
            DUE.same("property(" + what + ", 1)", new LzmaChains(0).property(what, 1), 0);
        }
    }

    private static void refusedProperty() {
        DUE.sentence("0: none such, another value.");
        LzmaChains alone = Due.fed(0, "abcdefabcdef");
        int[][] kept = {{0, 2}, {1, 1}, {2, 3}, {3, 6}, {7, 1}};
        int[][] refused = {{0, 4}, {0, -1}, {1, 3}, {1, -1}, {2, 5}, {2, -1}, {3, 0}, {3, 4097}, {7, 2}, {7, -1}, {8, 1}};
        set(alone, kept, 1);
        set(alone, refused, 0);
        alone.pack(0);
        DUE.same("what was set before stays", Due.outHex(alone).substring(0, 26),
            String.format("%02x", (3 * 5 + 1) * 9 + 2) + "06000000" + "ffffffffffffffff");
        LzmaChains box = Due.fed(2, Due.wild(60));
        set(box, new int[][] {{4, 10}, {5, 30}, {6, 4}}, 1);
        set(box, new int[][] {{4, 0}, {4, 1501}, {5, 0}, {5, 1501}, {6, 2}, {6, -1}}, 0);
        box.pack(0);
        DUE.same("CHUNK and BLOCK stay", Due.blocks(box), "12,12,40,30,3 72,12,40,30,3");
        DUE.same("the check's kind stays", box.out(7), 4);
    }

    private static void set(LzmaChains x, int[][] values, int due) {
        for (int[] v : values) {
            DUE.same("property(" + v[0] + ", " + v[1] + ")", x.property(v[0], v[1]), due);
        }
    }

    private static void filter() {
        DUE.sentence("kind 0 DELTA, v its distance (1 .. 256; 0: none), 1 BRANCH (1; 0: none): 1. 0: none such.");
        int[] values = {LEAST, -1, 0, 1, 2, 255, 256, 257, MOST};
        for (int v : values) {
            DUE.same("DELTA " + v, new LzmaChains(2).filter(0, v), v >= 0 && v <= 256 ? 1 : 0);
            DUE.same("BRANCH " + v, new LzmaChains(2).filter(1, v), v == 0 || v == 1 ? 1 : 0);
            DUE.same("kind 2, " + v, new LzmaChains(2).filter(2, v), 0);
            DUE.same("kind -1, " + v, new LzmaChains(2).filter(-1, v), 0);
            DUE.same("kind 3, " + v, new LzmaChains(2).filter(3, v), 0);
        }
        LzmaChains x = Due.fed(2, "abc");
        x.filter(0, 256);
        x.filter(0, 257);
        x.filter(1, 1);
        x.filter(1, 2);
        x.pack(0);
        DUE.same("what was set before stays", Due.outHex(x).substring(26, 42), "020301ff07002101");
        Due.put(x, Due.text("abc"));
        x.filter(0, 0);
        x.pack(0);
        DUE.same("no DELTA", Due.outHex(x).substring(26, 36), "0107002101");
        Due.put(x, Due.text("abc"));
        x.filter(1, 0);
        x.pack(0);
        DUE.same("no BRANCH", Due.outHex(x).substring(26, 32), "002101");
        DUE.sentence("(They count in form 2 alone.)");
        for (int form = 0; form < 2; form++) {
            byte[] code = Maker.row(1, 0, 0, 235, 1, 0, 0, 235);
            LzmaChains with = Due.fed(form, code);
            with.filter(0, 1);
            with.filter(1, 1);
            with.pack(0);
            DUE.same("form " + form, Due.outHex(with), Due.outHex(packed(form, code)));
            with.pass();
            with.open(4096);
            DUE.same("form " + form + " opened", Due.outHex(with), Due.hex(code));
        }
    }

    private static void feed() {
        DUE.sentence("Twenty bytes come behind the input, each number's highest one first: how many it has.");
        LzmaChains x = new LzmaChains(1);
        x.octet(255);
        DUE.same("feed", x.feed(LEAST, -2, 0x01020304, MOST, 0), 21);
        inputIs("bytes", x, Due.bytes("ff" + "80000000" + "fffffffe" + "01020304" + "7fffffff" + "00000000"));
        DUE.sentence("FULL: above 1,500.");
        for (int size = 1479; size <= 1500; size++) {
            LzmaChains y = Due.fed(1, Due.wild(size));
            DUE.same("feed at " + size, y.feed(1, 2, 3, 4, 5), size <= 1480 ? size + 20 : FULL);
            DUE.same("input then", y.count(0), size <= 1480 ? size + 20 : size);
            if (size > 1480) {
                inputIs("bytes then", y, Due.wild(size));
            }
        }
    }

    private static void end() {
        DUE.sentence("Of the last twenty bytes of the input the first n (0 .. 20) stay: how many it has.");
        byte[] wild = Due.wild(23);
        for (int n = 0; n <= 20; n++) {
            LzmaChains x = Due.fed(1, wild);
            DUE.same("end(" + n + ")", x.end(n), 3 + n);
            inputIs("bytes then", x, Maker.cut(wild, 3 + n));
        }
        DUE.sentence("BAD: another n, or fewer than twenty are there.");
        int[] others = {LEAST, -20, -1, 21, 40, MOST};
        for (int n : others) {
            LzmaChains x = Due.fed(1, wild);
            DUE.same("end(" + n + ")", x.end(n), BAD);
            inputIs("bytes then", x, wild);
        }
        for (int size = 0; size <= 20; size++) {
            LzmaChains x = Due.fed(1, Maker.cut(wild, size));
            DUE.same("end(20) of " + size, x.end(20), size < 20 ? BAD : 20);
            DUE.same("end(0) of " + size, x.end(0), size < 20 ? BAD : 0);
            DUE.same("input then", x.count(0), size < 20 ? size : 0);
        }
        LzmaChains twice = Due.fed(1, wild);
        twice.end(0);
        DUE.same("twenty are no longer there", twice.end(0), BAD);
        LzmaChains last = Due.fed(1, Due.wild(1500));
        DUE.same("of 1,500", last.end(0), 1480);
    }

    private static void octet() {
        DUE.sentence("A byte comes behind the input (its lowest 8 bits): how many it has.");
        int[] values = {0, 255, 256, 511, -1, -256, MOST, LEAST, 0x12345678};
        LzmaChains x = new LzmaChains(1);
        for (int i = 0; i < values.length; i++) {
            DUE.same("octet(" + values[i] + ")", x.octet(values[i]), i + 1);
        }
        inputIs("bytes", x, Due.bytes("00ff00ffff00ff0078"));
        DUE.sentence("FULL.");
        LzmaChains full = Due.fed(1, Due.wild(1499));
        DUE.same("octet at 1,499", full.octet(Due.wild(1500)[1499]), 1500);
        DUE.same("octet at 1,500", full.octet(1), FULL);
        DUE.same("input then", full.count(0), 1500);
        inputIs("bytes then", full, Due.wild(1500));
    }

    private static void packEmpty() {
        DUE.sentence("The input, which is empty then, is packed by a LEVEL (0 .. 2): how many bytes OUT has.");
        int[] sizes = {18, 1, 32};
        for (int form = 0; form < 3; form++) {
            for (int level = 0; level < 3; level++) {
                LzmaChains x = new LzmaChains(form);
                DUE.same("no input", x.pack(level), sizes[form]);
                DUE.same("no choices", x.step(-1, 0), 0);
                DUE.same("STATE", x.state(), 0);
                Due.put(x, Due.text("abcabcabc"));
                int n = x.pack(level);
                DUE.same("OUT", x.count(1), n);
                DUE.same("input then", x.count(0), 0);
                DUE.same("no input again", x.pack(level), sizes[form]);
                DUE.same("OUT then", x.count(1), sizes[form]);
                DUE.same("no choices then", x.step(-1, 0), 0);
                x.pass();
                DUE.same("opened", x.open(4096), 0);
            }
        }
        DUE.sentence("BLOCKS of BLOCK bytes (none without bytes)");
        DUE.same("a box of nothing", packed(2, new byte[0]).block(-1, 0), 0);
    }

    private static void packBad() {
        DUE.sentence("BAD: another LEVEL (nothing is changed).");
        int[] levels = {LEAST, -1, 3, 4, MOST};
        for (int form = 0; form < 3; form++) {
            LzmaChains x = packed(form, Due.text("abcabcabc"));
            x.octet(1);
            String before = all(x);
            for (int level : levels) {
                DUE.same("pack(" + level + ")", x.pack(level), BAD);
                DUE.same("all behind it", all(x), before);
            }
            LzmaChains broken = new LzmaChains(form);
            broken.open(LEAST);
            int rule = broken.rule();
            Due.put(broken, Due.text("ab"));
            DUE.same("pack(3)", broken.pack(3), BAD);
            DUE.same("the rule", broken.rule(), rule);
            DUE.same("the input", broken.count(0), 2);
        }
        LzmaChains bytes = Due.fed(1, Due.wild(9));
        bytes.pack(-1);
        inputIs("the input's bytes", bytes, Due.wild(9));
        LzmaChains none = new LzmaChains(1);
        none.pack(3);
        DUE.same("STATE where neither was", none.state(), -1);
    }

    private static LzmaChains beforeFull(int form, int size, int what, int v) {
        LzmaChains x = packed(form, Due.text("abcabcabcabcabc"));
        x.pass();
        x.open(0);
        Due.put(x, Due.wild(size));
        x.property(what, v);
        return x;
    }

    private static void packFull() {
        DUE.sentence("FULL: above 3,000 (OUT is empty, there are no choices, no blocks, STATE is - 1).");
        LzmaChains x = beforeFull(1, 1199, 4, 2);
        DUE.same("to just 3,000", x.pack(0), 3000);
        DUE.same("OUT", x.count(1), 3000);
        DUE.same("the last byte", x.out(2999), 0);
        DUE.same("chunks", x.block(0, 4), 600);
        LzmaChains y = beforeFull(1, 1200, 4, 2);
        DUE.same("to 3,001", y.pack(0), FULL);
        isEmpty(y);
        y.property(4, 512);
        Due.put(y, Due.text("ab"));
        DUE.same("pack behind it", y.pack(0), 6);
        LzmaChains far = beforeFull(1, 1500, 4, 1);
        DUE.same("to 6,001", far.pack(2), FULL);
        isEmpty(far);
        DUE.same("pass of nothing", far.pass(), 0);
    }

    private static void boxFull() {
        DUE.sentence("FULL: above 3,000 (OUT is empty, there are no choices, no blocks, STATE is - 1).");
        LzmaChains x = beforeFull(2, 792, 5, 8);
        DUE.same("a box to just 3,000", x.pack(1), 3000);
        DUE.same("its blocks", x.block(-1, 0), 99);
        DUE.same("its last bytes", x.out(2998) * 1000 + x.out(2999), 89090);
        LzmaChains y = beforeFull(2, 793, 5, 8);
        DUE.same("a box above 3,000", y.pack(1), FULL);
        isEmpty(y);
        int[] blocks = {1, 7, 8, 9, 10, 11, 12, 13};
        for (int block : blocks) {
            LzmaChains far = beforeFull(2, 1500, 5, block);
            DUE.same("a box far above, in blocks of " + block, far.pack(block % 3), FULL);
            isEmpty(far);
        }
    }

    private static void isEmpty(LzmaChains x) {
        DUE.same("all then", all(x), "0 0 -1||0:|0:");
        DUE.same("block 0", x.block(0, 0), BAD);
        DUE.same("choice 0", x.step(0, 0), BAD);
        DUE.throwsAt("out(0)", x, 0);
    }

    private static void open() {
        DUE.sentence("- 10 less the place in the input where a RULE was seen broken (how many bytes of it had been"
            + " read)");
        for (int form = 0; form < 3; form++) {
            LzmaChains x = new LzmaChains(form);
            DUE.same("nothing to open", x.open(4096), -10);
            DUE.same("its rule", x.rule(), 1);
            DUE.same("STATE", x.state(), 0);
            LzmaChains y = Due.fed(form, Maker.row(255));
            DUE.same("a first byte that is wrong", y.open(4096), -11);
            DUE.same("the input is empty then", y.count(0), 0);
        }
        LzmaChains last = Due.fed(1, Maker.plainChunk(1, Due.wild(1497)));
        DUE.same("1,500 bytes without an end", last.open(4096), -1510);
        DUE.same("OUT has what came before", last.count(1), 1497);
        DUE.sentence("no dictionary above memory");
        for (int form = 0; form < 3; form++) {
            byte[] bytes = Due.out(packed(form, Due.text("abcabcabc")));
            int[] places = {5, 0, 17};
            DUE.same("4,096 of 4,096", Due.fed(form, bytes).open(4096), 9);
            DUE.same("any memory", Due.fed(form, bytes).open(MOST), 9);
            int[] less = {4095, 0, -1, LEAST};
            for (int memory : less) {
                LzmaChains x = Due.fed(form, bytes);
                DUE.same("memory " + memory, x.open(memory), -10 - places[form]);
                DUE.same("rule", x.rule(), 15);
                DUE.same("OUT", x.count(1), 0);
                DUE.same("the input is empty then", x.count(0), 0);
            }
        }
    }

    private static void openBox() {
        DUE.sentence("OUT has what came before (of a box: the blocks whose check was right).");
        byte[] first = BoxMaker.plainBlock(1, Due.text("abc"));
        byte[] second = BoxMaker.plainBlock(1, Due.text("defg"));
        byte[] index = BoxMaker.index(23, 3, 24, 4);
        byte[] box = BoxMaker.box(1, Maker.join(first, second), index);
        LzmaChains right = Due.fed(2, box);
        DUE.same("both blocks", right.open(4096), 7);
        for (int at = 12; at < box.length; at++) {
            LzmaChains x = Due.fed(2, Maker.cut(box, at));
            DUE.same("cut off at " + at, x.open(4096), -10 - at);
            int due = at < 12 + first.length ? 0 : at < 12 + first.length + second.length ? 3 : 7;
            DUE.same("OUT then", Due.outHex(x), Due.hex(Due.text("abcdefg".substring(0, due))));
        }
        int check = 12 + first.length + second.length - 1;
        LzmaChains wrong = Due.fed(2, Maker.changed(box, check, box[check] + 1));
        DUE.same("the second check", wrong.open(4096), -10 - check - 1);
        DUE.same("OUT then", Due.outHex(wrong), Due.hex(Due.text("abc")));
    }

    private static void again() {
        DUE.sentence("The input, which is empty then, is packed .. is opened");
        byte[] bytes = Due.text("abcabcabcabcabcabcXabcabc");
        for (int form = 0; form < 3; form++) {
            LzmaChains x = Due.fed(form, bytes);
            x.pack(0);
            String first = Due.outHex(x);
            x.pass();
            DUE.same("opened", x.open(4096), bytes.length);
            x.pass();
            x.pack(0);
            DUE.same("packed behind an open()", Due.outHex(x), first);
            byte[] cut = Maker.cut(Due.bytes(first), first.length() / 2 - 1);
            Due.put(x, cut);
            DUE.same("a broken one", x.open(4096), -10 - cut.length);
            Due.put(x, Due.bytes(first));
            DUE.same("opened behind a broken one", x.open(4096), bytes.length);
            DUE.same("OUT", Due.outHex(x), Due.hex(bytes));
        }
    }

    private static void rule() {
        DUE.sentence("The RULE that the last open() saw broken; 0: none, or none was opened (pack() makes it 0, too).");
        LzmaChains x = new LzmaChains(0);
        DUE.same("none was opened", x.rule(), 0);
        x.octet(255);
        x.open(4096);
        DUE.same("a broken one", x.rule(), 3);
        x.open(4096);
        DUE.same("the last one", x.rule(), 1);
        x.octet(7);
        x.pass();
        x.turn(0, 1, false);
        x.property(0, 3);
        DUE.same("other calls leave it", x.rule(), 1);
        x.pack(0);
        DUE.same("pack()", x.rule(), 0);
        x.open(4096);
        DUE.same("broken again", x.rule(), 1);
        Due.put(x, new Maker().literals("A").alone(1));
        x.open(4096);
        DUE.same("none is broken", x.rule(), 0);
    }

    private static void pass() {
        DUE.sentence("The input becomes what OUT is (OUT stays): how many bytes.");
        LzmaChains x = holding(Due.wild(30));
        Due.put(x, Due.text("what was there before"));
        DUE.same("pass", x.pass(), 30);
        DUE.same("OUT stays", Due.outHex(x), Due.hex(Due.wild(30)));
        inputIs("the input", x, Due.wild(30));
        LzmaChains none = Due.fed(1, "abc");
        DUE.same("pass without OUT", none.pass(), 0);
        DUE.same("the input is empty", none.count(0), 0);
        DUE.sentence("FULL: above 1,500 (nothing is changed).");
        LzmaChains just = packed(1, Due.wild(1496));
        just.property(4, 1500);
        Due.put(just, Due.wild(1496));
        DUE.same("1,500 bytes", just.pack(0), 1500);
        DUE.same("pass of 1,500", just.pass(), 1500);
        LzmaChains more = new LzmaChains(1);
        more.property(4, 1500);
        Due.put(more, Due.wild(1497));
        DUE.same("1,501 bytes", more.pack(0), 1501);
        Due.put(more, Due.text("abcd"));
        String before = more.count(0) + " " + more.count(1) + " " + more.check(1, 0) + " " + more.state();
        DUE.same("pass of 1,501", more.pass(), FULL);
        DUE.same("all then", more.count(0) + " " + more.count(1) + " " + more.check(1, 0) + " " + more.state(), before);
        inputIs("the input's bytes", more, Due.text("abcd"));
    }

    private static void out() {
        DUE.sentence("Byte i of OUT. ArrayIndexOutOfBoundsException: none such.");
        DUE.throwsAt("out(0) of no OUT", new LzmaChains(2), 0);
        LzmaChains x = holding(Maker.row(7, 128, 255));
        DUE.same("out(0)", x.out(0), 7);
        DUE.same("out(1)", x.out(1), 128);
        DUE.same("out(2)", x.out(2), 255);
        int[] none = {LEAST, -3, -1, 3, 4, 2999, 3000, 3001, MOST};
        for (int i : none) {
            DUE.throwsAt("out(" + i + ")", x, i);
        }
        DUE.same("all is as before", Due.outHex(x), "0780ff");
        x.open(4096);
        DUE.throwsAt("out(0) of an OUT that was emptied", x, 0);
        LzmaChains most = Due.fed(0, full(3000).alone(3000));
        DUE.same("3,000 bytes", most.open(4096), 3000);
        DUE.same("out(2999)", most.out(2999), 65);
        DUE.throwsAt("out(3000)", most, 3000);
    }

    /** So many equal bytes as choices. */
    private static Maker full(int size) {
        Maker m = new Maker().literal(65);
        for (int left = size - 1; left > 0; left = size - m.size()) {
            if (left == 1) {
                m.shortRep();
            } else {
                m.rep(0, Math.min(left, 273));
            }
        }
        return m;
    }

    private static void steps() {
        DUE.sentence("0 its kind (0 LITERAL, 1 MATCH, 2 .. 5 REP of BACK 0 .. 3, 6 SHORT, 7 the END MARK), 1 its place in"
            + " OUT or input, 2 LENGTH (1; 0 of the END MARK), 3 how far (0 of 0, 7).");
        Maker m = new Maker().literals("abcdefgh").match(2, 2).match(3, 4).match(4, 6).match(5, 8);
        m.rep(3, 2).rep(1, 273).rep(2, 2).rep(0, 3).shortRep().mark();
        String due = "0,0,1,0 0,1,1,0 0,2,1,0 0,3,1,0 0,4,1,0 0,5,1,0 0,6,1,0 0,7,1,0 1,8,2,2 1,10,3,4 1,13,4,6 1,17,5,8"
            + " 5,22,2,2 3,24,273,8 4,297,2,6 2,299,3,6 6,302,1,6 7,303,0,0";
        LzmaChains x = Due.fed(0, m.alone(-1));
        x.open(4096);
        DUE.same("choices", Due.steps(x), due);
        DUE.sentence("i = - 1, what 0: how many there were");
        DUE.same("step(-1, 0)", x.step(-1, 0), 18);
        DUE.same("none was packed or opened", new LzmaChains(0).step(-1, 0), 0);
        DUE.sentence("BAD: none such.");
        int[][] none = {{-1, 1}, {-1, -1}, {-1, 3}, {-2, 0}, {LEAST, 0}, {18, 0}, {19, 0}, {2000, 0}, {MOST, 0}, {0, -1},
            {0, 4}, {17, 4}, {0, MOST}, {0, LEAST}, {0x40000000, 0}, {-0x40000000, 0}};
        for (int[] v : none) {
            DUE.same("step(" + v[0] + ", " + v[1] + ")", x.step(v[0], v[1]), BAD);
        }
        DUE.same("step(0, 0) of none", new LzmaChains(0).step(0, 0), BAD);
        x.open(4096);
        DUE.same("step(0, 0) of an opening without choices", x.step(0, 0), BAD);
    }

    private static void manySteps() {
        DUE.sentence("(the first 2,000; i = - 1, what 0: how many there were)");
        Maker m = new Maker().literal(65);
        while (m.size() < 2000) {
            m.shortRep();
        }
        LzmaChains just = Due.fed(0, m.alone(2000));
        just.open(4096);
        DUE.same("2,000 choices", just.step(-1, 0), 2000);
        DUE.same("the place of the last", just.step(1999, 1), 1999);
        m.shortRep();
        LzmaChains more = Due.fed(0, m.alone(2001));
        more.open(4096);
        DUE.same("2,001 choices", more.step(-1, 0), 2001);
        DUE.same("the place of choice 1,999", more.step(1999, 1), 1999);
        DUE.same("choice 2,000", more.step(2000, 0), BAD);
        while (m.size() < 3000) {
            m.shortRep();
        }
        m.mark();
        LzmaChains most = Due.fed(0, m.alone(-1));
        DUE.same("3,000 bytes", most.open(4096), 3000);
        DUE.same("3,001 choices", most.step(-1, 0), 3001);
        DUE.same("choice 1,999", most.step(1999, 0), 6);
        DUE.same("choice 3,000", most.step(3000, 0), BAD);
    }

    private static void plainSteps() {
        DUE.sentence("(Those of chunks that were packed plain in the end do not count.)");
        byte[] run = Due.run(20, 65);
        LzmaChains plain = Due.fed(1, Due.wild(20));
        plain.pack(0);
        DUE.same("a plain chunk alone", plain.step(-1, 0), 0);
        LzmaChains x = Due.fed(1, Maker.join(run, Due.wild(20), run));
        x.property(4, 20);
        x.pack(0);
        DUE.same("the second of three", Due.steps(x), "0,0,1,0 2,1,19,1 1,40,20,40");
        x.pass();
        x.open(4096);
        DUE.same("the same opened", Due.steps(x), "0,0,1,0 2,1,19,1 1,40,20,40");
    }

    private static void state() {
        DUE.sentence("STATE behind the last pack() or open(); - 1: neither was.");
        for (int form = 0; form < 3; form++) {
            LzmaChains x = new LzmaChains(form);
            DUE.same("neither was", x.state(), -1);
            x.octet(65);
            x.pass();
            x.pack(3);
            DUE.same("still neither", x.state(), -1);
            x.pack(0);
            DUE.same("behind a pack() of nothing", x.state(), 0);
            LzmaChains y = new LzmaChains(form);
            y.open(0);
            DUE.same("behind an open() of nothing", y.state(), 0);
        }
        LzmaChains last = packed(0, Due.text("aaaaaaaa"));
        DUE.same("behind a REP", last.state(), 8);
        last.open(4096);
        DUE.same("behind an open() of nothing, after that", last.state(), 0);
        last.octet(65);
        last.pack(0);
        DUE.same("behind a LITERAL", last.state(), 0);
    }

    private static void blocks() {
        DUE.sentence("Of block i of the last box that was packed or opened (form 2; i = - 1, what 0: how many)");
        LzmaChains x = Due.fed(2, Due.wild(25));
        x.property(5, 10);
        x.property(4, 4);
        x.pack(0);
        String due = "12,12,20,10,3 48,12,20,10,3 84,12,12,5,2";
        DUE.same("how many", x.block(-1, 0), 3);
        DUE.same("place, head, packed bytes, bytes, chunks", Due.blocks(x), due);
        x.pass();
        x.open(4096);
        DUE.same("the same opened", Due.blocks(x), due);
        DUE.sentence("BAD: none such.");
        int[][] none = {{-1, 1}, {-1, -1}, {-1, 4}, {-2, 0}, {LEAST, 0}, {3, 0}, {4, 0}, {MOST, 0}, {0, -1}, {0, 5}, {2, 5},
            {0, MOST}, {0, LEAST}, {0x40000000, 0}, {0x33333334, 0}};
        for (int[] v : none) {
            DUE.same("block(" + v[0] + ", " + v[1] + ")", x.block(v[0], v[1]), BAD);
        }
        x.open(4096);
        DUE.same("how many in an opening of nothing", x.block(-1, 0), 0);
        DUE.same("block(0, 0) then", x.block(0, 0), BAD);
        LzmaChains alone = packed(0, Due.text("abcabc"));
        DUE.same("form 0", alone.block(-1, 0), 0);
        DUE.same("block(0, 4) of form 0", alone.block(0, 4), BAD);
        DUE.same("block(0, 0) of a new object", new LzmaChains(2).block(0, 0), BAD);
    }

    private static void chunkBlock() {
        DUE.sentence("of form 1 block 0 is all of it up to its end, when that came, its head 0.");
        DUE.same("packed", Due.blocks(packed(1, Due.wild(600))), "0,0,607,600,2");
        DUE.same("packed of nothing", Due.blocks(packed(1, new byte[0])), "0,0,1,0,0");
        byte[] chunks = BoxMaker.plainChunks(Due.text("abc"));
        for (int n = 0; n < chunks.length; n++) {
            LzmaChains cut = Due.fed(1, Maker.cut(chunks, n));
            cut.open(4096);
            DUE.same("no end came, only " + n + " bytes", cut.block(-1, 0), 0);
            DUE.same("block(0, 0) then", cut.block(0, 0), BAD);
        }
        LzmaChains x = Due.fed(1, chunks);
        x.open(4096);
        DUE.same("its end came", Due.blocks(x), "0,0,7,3,1");
        DUE.same("how many", x.block(-1, 0), 1);
        DUE.same("block 1", x.block(1, 0), BAD);
        LzmaChains behind = Due.fed(1, Maker.join(chunks, Maker.row(9, 9)));
        behind.open(4096);
        DUE.same("its end came, then other bytes", Due.blocks(behind), "0,0,7,3,1");
    }

    private static void check() {
        DUE.sentence("The check of OUT of a kind (0, 1, 4, 10): word i of it (4 bytes, lowest first; of SHA-256 highest"
            + " first).");
        int[] sizes = {0, 1, 55, 56, 63, 64, 65, 119, 120, 1400};
        for (int size : sizes) {
            byte[] bytes = Due.wild(size);
            LzmaChains x = holding(bytes);
            words("CRC32", x, 1, BoxMaker.crc32(bytes), false);
            words("CRC64", x, 4, BoxMaker.crc64(bytes), false);
            words("SHA-256", x, 10, BoxMaker.sha256(bytes), true);
        }
        DUE.sentence("BAD: none such.");
        LzmaChains x = holding(Due.text("abc"));
        int[][] none = {{0, 0}, {0, 1}, {0, -1}, {1, 1}, {1, -1}, {4, 2}, {4, -1}, {10, 8}, {10, -1}, {10, MOST}, {10, LEAST},
            {2, 0}, {3, 0}, {5, 0}, {9, 0}, {11, 0}, {-1, 0}, {MOST, 0}, {LEAST, 0}, {257, 0}};
        for (int[] v : none) {
            DUE.same("check(" + v[0] + ", " + v[1] + ")", x.check(v[0], v[1]), BAD);
        }
    }

    private static void words(String name, LzmaChains x, int kind, byte[] due, boolean high) {
        for (int i = 0; i < due.length / 4; i++) {
            int word = 0;
            for (int k = 0; k < 4; k++) {
                word |= (due[4 * i + k] & 255) << 8 * (high ? 3 - k : k);
            }
            DUE.same(name + " of " + x.count(1) + ", word " + i, x.check(kind, i), word);
        }
    }

    private static void delta() {
        DUE.sentence("DELTA, packing: each byte less the one DISTANCE before it (0 without).");
        byte[] bytes = Due.wild(600);
        int[] distances = {1, 2, 255, 256};
        for (int distance : distances) {
            byte[] due = bytes.clone();
            for (int i = distance; i < due.length; i++) {
                due[i] = (byte) (bytes[i] - bytes[i - distance]);
            }
            LzmaChains x = holding(bytes);
            DUE.same("turn(0, " + distance + ")", x.turn(0, distance, false), 600);
            DUE.same("bytes", Due.brief(x), Due.brief(due));
            LzmaChains y = holding(due);
            DUE.same("back", y.turn(0, distance, true), 600);
            DUE.same("bytes", Due.brief(y), Due.brief(bytes));
        }
        for (int size = 255; size <= 257; size++) {
            LzmaChains x = holding(Due.run(size, 5));
            x.turn(0, 256, false);
            DUE.same("the last of " + size, x.out(size - 1), size > 256 ? 0 : 5);
        }
        LzmaChains below = holding(Maker.row(255, 0, 1));
        below.turn(0, 1, false);
        DUE.same("0 less 255", Due.outHex(below), "ff0101");
        below.turn(0, 1, true);
        DUE.same("255 and 1", Due.outHex(below), "ff0001");
        DUE.same("of nothing", new LzmaChains(1).turn(0, 256, true), 0);
    }

    private static void branch() {
        DUE.sentence("of each four bytes (from the first on) whose fourth is 235: the number of the first three, times 4,"
            + " and its place and 8 more, modulo 2^26, divided by 4, takes their place; opening takes it off.");
        byte[] bytes = Maker.row(0, 0, 0, 235, 253, 255, 255, 235, 252, 255, 255, 235, 1, 2, 3, 234, 0, 0, 235, 235, 255, 255,
            255, 235);
        byte[] due = Maker.row(2, 0, 0, 235, 0, 0, 0, 235, 0, 0, 0, 235, 1, 2, 3, 234, 6, 0, 235, 235, 6, 0, 0, 235);
        LzmaChains x = holding(bytes);
        DUE.same("turn(1, 0)", x.turn(1, 0, false), bytes.length);
        DUE.same("bytes", Due.outHex(x), Due.hex(due));
        DUE.same("back", x.turn(1, 0, true), bytes.length);
        DUE.same("bytes", Due.outHex(x), Due.hex(bytes));
        for (int rest = 0; rest < 4; rest++) {
            byte[] last = Maker.join(new byte[4], Maker.cut(Maker.row(9, 9, 235, 235), rest));
            LzmaChains y = holding(last);
            DUE.same("a rest of " + rest, y.turn(1, 1, false), 4 + rest);
            DUE.same("stays", Due.outHex(y), Due.hex(last));
        }
        for (int size = 0; size < 4; size++) {
            byte[] few = Due.run(size, 235);
            LzmaChains y = holding(few);
            DUE.same("of " + size, y.turn(1, 0, true), size);
            DUE.same("stays", Due.outHex(y), Due.hex(few));
        }
        LzmaChains shorter = holding(Due.run(8, 235));
        Due.put(shorter, BoxMaker.plainChunks(Maker.row(1, 2, 3, 0, 5, 6, 7)));
        shorter.open(4096);
        shorter.turn(1, 0, false);
        DUE.same("bytes that are no longer there", Due.outHex(shorter), "01020300050607");
        byte[] far = new byte[1400];
        Arrays.fill(far, (byte) 235);
        LzmaChains z = holding(far);
        z.turn(1, 0, false);
        int word = 235 + 235 * 256 + 235 * 65536 + (1396 + 8) / 4;
        DUE.same("the last four of 1,400", z.out(1396) + 256 * z.out(1397) + 65536 * z.out(1398), word);
    }

    private static void refusedTurn() {
        DUE.sentence("or back: how many bytes. BAD: none such.");
        LzmaChains x = holding(Maker.row(1, 2, 3, 235, 5));
        int[][] none = {{0, 0}, {0, -1}, {0, 257}, {0, MOST}, {0, LEAST}, {2, 1}, {-1, 1}, {3, 1}, {7, 1}, {MOST, 1}, {LEAST, 1}};
        for (int[] v : none) {
            DUE.same("turn(" + v[0] + ", " + v[1] + ", false)", x.turn(v[0], v[1], false), BAD);
            DUE.same("turn(" + v[0] + ", " + v[1] + ", true)", x.turn(v[0], v[1], true), BAD);
        }
        DUE.same("OUT is as before", Due.outHex(x), "010203eb05");
    }

    private static void count() {
        DUE.sentence("How many bytes: 0 input, 1 OUT. BAD: another number.");
        LzmaChains x = new LzmaChains(1);
        DUE.same("no input", x.count(0), 0);
        DUE.same("no OUT", x.count(1), 0);
        x.property(4, 2);
        Due.put(x, Due.wild(1199));
        DUE.same("input", x.count(0), 1199);
        x.pack(0);
        DUE.sentence("Input: at most 1,500 bytes; what is packed or opened, OUT: at most 3,000.");
        Due.put(x, Due.wild(1500));
        DUE.same("the most of the input", x.count(0), 1500);
        DUE.same("the most of OUT", x.count(1), 3000);
        DUE.sentence("BAD: another number.");
        int[] others = {LEAST, -1, 2, 3, 256, MOST};
        for (int what : others) {
            DUE.same("count(" + what + ")", x.count(what), BAD);
        }
    }
}
