/** Promises 1 to 17, one after the other: ordinary inputs, the edges that are named, wrong inputs. */
public final class PromisesTest {
    private static final Due DUE = new Due("PromisesTest");
    private static final String TEXT = "abcabcabcabcXabcabcYYYYYYYYYYYYabcXabc";
    private static final String BITS = "00309888a7ea8f6a4fec05cdc09aad00";
    private static final String ALONE = "5d001000002600000000000000" + BITS;
    private static final String CHUNKS = "e00025000f5d" + BITS + "00";
    private static final String BOX = "fd377a585a0000016922de36" + "0200210100000000372797d6" + CHUNKS + "00"
        + "bcbc7f64" + "00012726b3824e28" + "9042990d010000000001595a";
    private static final String EMPTY_BOX =
        "fd377a585a0000016922de36000000001cdf44219042990d010000000001595a";
    private static final String EMPTY_ALONE = "5d0010000000000000000000000000000000";
    private static final String STEPS =
        "0,0,1,0 0,1,1,0 0,2,1,0 1,3,9,3 0,12,1,0 1,13,6,7 0,19,1,0 4,20,11,1 1,31,7,22";

    public static void main(String[] args) {
        aNewObject();
        property();
        propertyInUse();
        filter();
        feed();
        end();
        octet();
        pack();
        packFull();
        choosing();
        open();
        rule();
        pass();
        out();
        step();
        state();
        block();
        check();
        turn();
        count();
        DUE.finish();
    }

    private static void aNewObject() {
        int[] forms = {0, 1, 2, 3, -1, Integer.MAX_VALUE, Integer.MIN_VALUE};
        String[] empty = {EMPTY_ALONE, "00", EMPTY_BOX};
        for (int form : forms) {
            LzmaChains x = new LzmaChains(form);
            DUE.same("input of a new object", x.count(0), 0);
            DUE.same("OUT of a new object", x.count(1), 0);
            DUE.same("rule of a new object", x.rule(), 0);
            DUE.same("state of a new object", x.state(), -1);
            DUE.same("choices of a new object", x.step(-1, 0), 0);
            DUE.same("blocks of a new object", x.block(-1, 0), 0);
            DUE.throwsAt("out of a new object", x, 0);
            x.pack(0);
            DUE.same("form " + form + " packed empty", Due.outHex(x), empty[form == 1 || form == 2 ? form : 0]);
        }
        LzmaChains chunks = Due.fed(1, Due.run(1025, 65));
        chunks.pack(0);
        DUE.same("CHUNK 512 at first", chunks.block(0, 4), 3);
        LzmaChains box = Due.fed(2, Due.run(1025, 65));
        box.pack(0);
        DUE.same("BLOCK 1,024 at first", Due.blocks(box), "12,12,29,1024,2 60,12,5,1,1");
        DUE.same("BAD", LzmaChains.BAD, -1);
        DUE.same("NONE", LzmaChains.NONE, -2);
        DUE.same("FULL", LzmaChains.FULL, -3);
    }

    private static void property() {
        int[] most = {4, 1, 4, 4096, 1500, 1500, 10, 1};
        int[] least = {0, 0, 0, 1, 1, 1, 0, 0};
        for (int what = 0; what < 8; what++) {
            LzmaChains x = new LzmaChains(0);
            DUE.same("property " + what + " least", x.property(what, least[what]), 1);
            DUE.same("property " + what + " below", x.property(what, least[what] - 1), 0);
            DUE.same("property " + what + " most", x.property(what, most[what]), 1);
            DUE.same("property " + what + " above", x.property(what, most[what] + 1), 0);
            DUE.same("property " + what + " far above", x.property(what, Integer.MAX_VALUE), 0);
            DUE.same("property " + what + " far below", x.property(what, Integer.MIN_VALUE), 0);
        }
        LzmaChains x = new LzmaChains(2);
        DUE.same("property -1", x.property(-1, 1), 0);
        DUE.same("property 8", x.property(8, 1), 0);
        DUE.same("property far below", x.property(Integer.MIN_VALUE, 1), 0);
        DUE.same("lp 2 with lc 3", x.property(1, 2), 0);
        DUE.same("lp 1 with lc 3", x.property(1, 1), 1);
        DUE.same("lc 4 with lp 1", x.property(0, 4), 0);
        DUE.same("lc 0 with lp 1", x.property(0, 0), 1);
        DUE.same("lp 4 with lc 0", x.property(1, 4), 1);
        DUE.same("lc 1 with lp 4", x.property(0, 1), 0);
        DUE.same("dictionary 4,096 of a box", x.property(3, 4096), 1);
        DUE.same("dictionary 4,095 of a box", x.property(3, 4095), 0);
        DUE.same("dictionary 1 of a box", x.property(3, 1), 0);
        for (int kind = 0; kind < 17; kind++) {
            boolean right = kind == 0 || kind == 1 || kind == 4 || kind == 10;
            DUE.same("check's kind " + kind, x.property(6, kind), right ? 1 : 0);
        }
    }

    private static void propertyInUse() {
        LzmaChains x = Due.fed(0, "A");
        x.property(0, 1);
        x.property(1, 3);
        x.property(2, 4);
        x.property(2, 5);
        x.property(3, 0x123);
        x.property(7, 1);
        x.pack(0);
        DUE.same("property byte", x.out(0), (4 * 5 + 3) * 9 + 1);
        DUE.same("dictionary, low", x.out(1), 0x23);
        DUE.same("dictionary, high", x.out(2), 1);
        DUE.same("size all 255", x.out(5) & x.out(12), 255);
        DUE.same("END MARK", Due.steps(x), "0,0,1,0 7,1,0,0");
        LzmaChains small = Due.fed(0, "abcdefabcdef");
        small.property(3, 5);
        small.pack(0);
        DUE.same("no copy from beyond the dictionary", small.step(-1, 0), 12);
        LzmaChains wide = Due.fed(0, "abcdefabcdef");
        wide.property(3, 6);
        wide.pack(0);
        DUE.same("a copy from the dictionary's edge", Due.steps(wide, 6, 7), "1,6,6,6");
        LzmaChains chunks = Due.fed(1, "abcdefghij");
        chunks.property(4, 4);
        chunks.pack(0);
        DUE.same("CHUNK 4", Due.outHex(chunks), "0100036162636402000365666768020001696a00");
        int[] kinds = {0, 1, 4, 10};
        int[] sizes = {0, 4, 8, 32};
        for (int i = 0; i < 4; i++) {
            LzmaChains box = Due.fed(2, "abc");
            box.property(6, kinds[i]);
            DUE.same("a box with check " + kinds[i], box.pack(0), 12 + 12 + 8 + sizes[i] + 8 + 12);
            DUE.same("the kind in it", box.out(7), kinds[i]);
        }
    }

    private static void filter() {
        for (int form = 0; form < 3; form++) {
            LzmaChains x = new LzmaChains(form);
            int[] right = {0, 1, 256};
            for (int v : right) {
                DUE.same("filter DELTA " + v, x.filter(0, v), 1);
            }
            DUE.same("filter DELTA -1", x.filter(0, -1), 0);
            DUE.same("filter DELTA 257", x.filter(0, 257), 0);
            DUE.same("filter BRANCH 1", x.filter(1, 1), 1);
            DUE.same("filter BRANCH 0", x.filter(1, 0), 1);
            DUE.same("filter BRANCH 2", x.filter(1, 2), 0);
            DUE.same("filter BRANCH -1", x.filter(1, -1), 0);
            DUE.same("filter 2", x.filter(2, 1), 0);
            DUE.same("filter -1", x.filter(-1, 1), 0);
        }
        DUE.same("DELTA in a box", filtered(2, 0), "0201030101210100|0100020a1414");
        DUE.same("BRANCH in a box", filtered(0, 1), "0201070021010000|0100020a141e");
        DUE.same("no filter in a box", filtered(0, 0), "0200210100000000|0100020a141e");
        LzmaChains x = Due.fed(1, new byte[] {10, 20, 30});
        x.filter(0, 1);
        x.filter(1, 1);
        x.pack(0);
        DUE.same("no filter in form 1", Due.outHex(x), "0100020a141e00");
        LzmaChains both = Due.fed(2, new byte[] {1, 0, 0, -21, 1, 0, 0, -22, 2, 0, 0, -21});
        both.filter(0, 4);
        both.filter(1, 1);
        both.property(5, 8);
        both.pack(0);
        String hex = Due.outHex(both);
        DUE.same("DELTA, then BRANCH, each block for itself", hex.substring(24, 44), "03020301030700210100");
        DUE.same("the first block's bytes", hex.substring(56, 78), "010007" + "030000eb" + "000000ff");
        both.pass();
        DUE.same("opened again", both.open(4096), 12);
        DUE.same("as they were", Due.outHex(both), "010000eb010000ea020000eb");
    }

    /** The head of the first block without its CRC32, and its first chunk. */
    private static String filtered(int delta, int branch) {
        LzmaChains x = Due.fed(2, new byte[] {10, 20, 30});
        x.filter(0, 5);
        x.filter(1, 1 - branch);
        x.filter(0, delta);
        x.filter(1, branch);
        x.pack(0);
        String hex = Due.outHex(x);
        return hex.substring(24, 40) + "|" + hex.substring(48, 60);
    }

    private static void feed() {
        LzmaChains x = new LzmaChains(1);
        DUE.same("feed", x.feed(0x01020304, 0x05060708, 0x090a0b0c, 0x0d0e0f10, 0xfffefdfc), 20);
        x.pack(0);
        DUE.same("the highest byte first", Due.outHex(x), "0100130102030405060708090a0b0c0d0e0f10fffefdfc00");
        for (int i = 1; i <= 75; i++) {
            DUE.same("feed " + i, x.feed(i, i, i, i, i), 20 * i);
        }
        DUE.same("feed above 1,500", x.feed(1, 2, 3, 4, 5), LzmaChains.FULL);
        DUE.same("input then", x.count(0), 1500);
        x.end(19);
        DUE.same("feed at 1,499", x.feed(1, 2, 3, 4, 5), LzmaChains.FULL);
        x.end(2);
        DUE.same("feed at 1,481", x.feed(1, 2, 3, 4, 5), LzmaChains.FULL);
        DUE.same("input then", x.count(0), 1481);
        x.end(19);
        DUE.same("feed at 1,480, to just 1,500", x.feed(1, 2, 3, 4, 5), 1500);
    }

    private static void end() {
        LzmaChains x = new LzmaChains(1);
        DUE.same("end without input", x.end(0), LzmaChains.BAD);
        for (int i = 0; i < 19; i++) {
            x.octet(i);
        }
        DUE.same("end of 19", x.end(5), LzmaChains.BAD);
        DUE.same("input is as before", x.count(0), 19);
        x.octet(19);
        DUE.same("end(-1)", x.end(-1), LzmaChains.BAD);
        DUE.same("end(21)", x.end(21), LzmaChains.BAD);
        DUE.same("end(20)", x.end(20), 20);
        DUE.same("end(3)", x.end(3), 3);
        x.pack(0);
        DUE.same("the first three stay", Due.outHex(x), "01000200010200");
        x.feed(1, 2, 3, 4, 5);
        x.octet(9);
        DUE.same("of the last twenty", x.end(0), 1);
        x.pack(0);
        DUE.same("the first stays", Due.outHex(x), "0100000000");
        x.feed(1, 2, 3, 4, 5);
        DUE.same("end(0)", x.end(0), 0);
    }

    private static void octet() {
        LzmaChains x = new LzmaChains(1);
        DUE.same("octet", x.octet(7), 1);
        DUE.same("octet(-1)", x.octet(-1), 2);
        DUE.same("octet(256)", x.octet(256), 3);
        DUE.same("octet(0x1ff)", x.octet(0x1ff), 4);
        x.pack(0);
        DUE.same("the lowest 8 bits", Due.outHex(x), "01000307ff00ff00");
        Due.put(x, Due.run(1500, 1));
        DUE.same("octet above 1,500", x.octet(1), LzmaChains.FULL);
        DUE.same("input then", x.count(0), 1500);
        x.end(19);
        DUE.same("octet to just 1,500", x.octet(1), 1500);
    }

    private static void pack() {
        String[] due = {ALONE, CHUNKS, BOX};
        for (int form = 0; form < 3; form++) {
            for (int level = 0; level < 3; level++) {
                LzmaChains x = Due.fed(form, TEXT);
                DUE.same("pack", x.pack(level), due[form].length() / 2);
                DUE.same("packed in form " + form, Due.outHex(x), due[form]);
                DUE.same("the input is empty", x.count(0), 0);
                DUE.same("choices in form " + form, Due.steps(x), STEPS);
            }
        }
        LzmaChains x = Due.fed(1, TEXT);
        x.pack(0);
        Due.put(x, Due.text("next"));
        int[] bad = {-1, 3, Integer.MAX_VALUE, Integer.MIN_VALUE};
        for (int level : bad) {
            DUE.same("pack(" + level + ")", x.pack(level), LzmaChains.BAD);
            DUE.same("input then", x.count(0), 4);
            DUE.same("OUT then", Due.outHex(x), CHUNKS);
            DUE.same("choices then", Due.steps(x), STEPS);
            DUE.same("blocks then", Due.blocks(x), "0,0,23,38,1");
            DUE.same("STATE then", x.state(), 10);
        }
        LzmaChains opened = Due.fed(1, new byte[] {5});
        opened.open(4096);
        opened.pack(7);
        DUE.same("the rule stays at a bad LEVEL", opened.rule(), 5);
        LzmaChains marked = new LzmaChains(0);
        marked.property(7, 1);
        DUE.same("END MARK alone", marked.pack(0), 23);
        DUE.same("its bytes", Due.outHex(marked), "5d00100000ffffffffffffffff0083fffbffffc0000000");
    }

    private static void packFull() {
        LzmaChains x = Due.fed(1, TEXT);
        x.property(4, 1);
        x.pack(0);
        Due.put(x, Due.run(750, 3));
        DUE.same("pack above 3,000 by one", x.pack(0), LzmaChains.FULL);
        DUE.same("OUT then", x.count(1), 0);
        DUE.same("input then", x.count(0), 0);
        DUE.same("choices then", x.step(-1, 0), 0);
        DUE.same("blocks then", x.block(-1, 0), 0);
        DUE.same("STATE then", x.state(), -1);
        DUE.same("rule then", x.rule(), 0);
        DUE.throwsAt("out then", x, 0);
        Due.put(x, Due.run(749, 3));
        DUE.same("pack just below 3,000", x.pack(0), 2997);
        DUE.same("STATE of plain chunks", x.state(), 0);
        LzmaChains box = Due.fed(2, Due.run(1500, 3));
        box.property(5, 1);
        DUE.same("a box above 3,000", box.pack(2), LzmaChains.FULL);
        DUE.same("its blocks then", box.block(-1, 0), 0);
    }

    private static void chosen(String text, int level, String steps, int state) {
        LzmaChains x = Due.fed(0, text);
        x.pack(level);
        DUE.same("LEVEL " + level + " of " + text, Due.steps(x), steps);
        DUE.same("STATE of it", x.state(), state);
    }

    private static void choosing() {
        chosen("aacaaaaa", 0, "0,0,1,0 6,1,1,1 0,2,1,0 1,3,2,3 3,5,3,1", 11);
        chosen("aacaaaaa", 1, "0,0,1,0 6,1,1,1 0,2,1,0 0,3,1,0 2,4,4,1", 8);
        chosen("aacaaaaa", 2, "0,0,1,0 0,1,1,0 0,2,1,0 1,3,2,3 3,5,3,1", 11);
        chosen("cdadacddaddd", 0,
            "0,0,1,0 0,1,1,0 0,2,1,0 1,3,2,2 1,5,2,5 1,7,3,6 5,10,2,1", 11);
        chosen("ddccdd", 0, "0,0,1,0 6,1,1,1 0,2,1,0 6,3,1,1 1,4,2,4", 10);
        chosen("ddccdd", 2, "0,0,1,0 0,1,1,0 0,2,1,0 0,3,1,0 1,4,2,4", 7);
        chosen("ffffdbffdbffdbffdbffdbffff", 2,
            "0,0,1,0 2,1,3,1 0,4,1,0 0,5,1,0 1,6,17,4 3,23,3,1", 11);
        chosen("hfeeehfeeehfeeehfeeehfehf", 2, "0,0,1,0 0,1,1,0 0,2,1,0 2,3,2,1 1,5,17,5 1,22,3,3", 10);
        longerAtTheNext(31, "0,66,1,0 1,67,33,35");
        longerAtTheNext(32, "1,68,32,68 1,100,3,36");
        LzmaChains run = Due.fed(0, Due.run(548, 65));
        run.pack(0);
        DUE.same("copies of 273 at most", Due.steps(run), "0,0,1,0 2,1,273,1 2,274,273,1 6,547,1,1");
        DUE.same("their STATE", run.state(), 11);
        twoFarAway(128, "1,130,2,128 0,132,1,0");
        twoFarAway(129, "0,131,1,0 0,132,1,0 0,133,1,0");
    }

    /** LEVEL 1 looks at the next place only behind a LENGTH below 32. */
    private static void longerAtTheNext(int length, String steps) {
        StringBuilder row = new StringBuilder();
        for (int i = 0; i < length + 2; i++) {
            row.append((char) (128 + i));
        }
        LzmaChains x = Due.fed(0, "d" + row.substring(0, length - 1) + "e" + row + "fd" + row);
        x.pack(1);
        int n = x.step(-1, 0);
        DUE.same("a LENGTH of " + length + ", then one of 2 more", Due.steps(x, n - 2, n), steps);
    }

    /** Two equal bytes are a MATCH up to 128 away, and two LITERALs from there on. */
    private static void twoFarAway(int away, String steps) {
        byte[] bytes = new byte[away + 5];
        for (int i = 0; i < bytes.length; i++) {
            bytes[i] = (byte) i;
        }
        bytes[away + 2] = 2;
        bytes[away + 3] = 3;
        bytes[away + 4] = (byte) 255;
        LzmaChains x = Due.fed(0, bytes);
        x.pack(0);
        DUE.same("two bytes " + away + " away", Due.steps(x, away + 2, x.step(-1, 0)), steps);
    }

    private static void open() {
        String[] packed = {ALONE, CHUNKS, BOX};
        for (int form = 0; form < 3; form++) {
            LzmaChains x = Due.fed(form, Due.bytes(packed[form]));
            DUE.same("open", x.open(4096), 38);
            DUE.same("OUT", Due.outHex(x), Due.hex(Due.text(TEXT)));
            DUE.same("the input is empty", x.count(0), 0);
            DUE.same("rule", x.rule(), 0);
            DUE.same("choices", Due.steps(x), STEPS);
            DUE.same("STATE", x.state(), 10);
        }
        opensAs("1300100000ffffffffffffffff0030994da297b293077814aaa1160c97ffff5b640000", 0,
            Due.hex(Due.text(TEXT)));
        opensAs("01002700143666a4f04fb732b64deda061300df3ecf30d3061a0ed4db632b74ff0a466361400f502183c6e00", 1,
            "00143666a4f04fb732b64deda061300df3ecf30d3061a0ed4db632b74ff0a466361400f502183c6e");
        StringBuilder nine = new StringBuilder();
        for (int i = 0; i < 9; i++) {
            nine.append("010203eb");
        }
        opensAs("fd377a585a0000016922de36040303010307000301002101010000009bf2ae6ae00023000cd80001bfbc2e80a80370c0"
            + "00000000b93d7c0400012c24543ab4259042990d010000000001595a", 2, nine.toString());
        LzmaChains cut = Due.fed(0, Due.bytes(ALONE.substring(0, ALONE.length() - 2)));
        DUE.same("one byte too few", cut.open(4096), -10 - 28);
        DUE.same("what came before", Due.outHex(cut), Due.hex(Due.text(TEXT.substring(0, 31))));
        DUE.same("input then", cut.count(0), 0);
        LzmaChains again = Due.fed(2, Due.bytes(BOX));
        DUE.same("no memory", again.open(4095), -10 - 17);
        DUE.same("no OUT", again.count(1), 0);
    }

    /** What liblzma has packed. */
    private static void opensAs(String hex, int form, String due) {
        LzmaChains x = Due.fed(form, Due.bytes(hex));
        DUE.same("open", x.open(1 << 20), due.length() / 2);
        DUE.same("OUT", Due.outHex(x), due);
    }

    private static void rule() {
        LzmaChains x = Due.fed(1, new byte[] {5});
        DUE.same("rule ahead", x.rule(), 0);
        DUE.same("open", x.open(4096), -11);
        DUE.same("rule", x.rule(), 5);
        x.octet(1);
        x.pass();
        DUE.same("rule stays", x.rule(), 5);
        x.octet(0);
        x.open(4096);
        DUE.same("rule of a right one", x.rule(), 0);
        x.open(4096);
        DUE.same("rule of none", x.rule(), 1);
        x.pack(0);
        DUE.same("pack() makes it 0", x.rule(), 0);
    }

    private static void pass() {
        LzmaChains x = Due.fed(1, TEXT);
        DUE.same("pass without OUT", x.pass(), 0);
        DUE.same("the input is OUT", x.count(0), 0);
        Due.put(x, Due.text(TEXT));
        x.pack(0);
        x.octet(1);
        DUE.same("pass", x.pass(), 23);
        DUE.same("input", x.count(0), 23);
        DUE.same("OUT stays", Due.outHex(x), CHUNKS);
        DUE.same("open what was passed", x.open(4096), 38);
        LzmaChains wild = Due.fed(1, Due.wild(1496));
        wild.property(4, 1500);
        DUE.same("packed to just 1,500", wild.pack(0), 1500);
        DUE.same("pass of 1,500", wild.pass(), 1500);
        LzmaChains more = Due.fed(1, Due.wild(1497));
        more.property(4, 1500);
        DUE.same("packed to 1,501", more.pack(0), 1501);
        more.octet(3);
        DUE.same("pass of 1,501", more.pass(), LzmaChains.FULL);
        DUE.same("input is as before", more.count(0), 1);
        DUE.same("OUT is as before", more.count(1), 1501);
    }

    private static void out() {
        LzmaChains x = Due.fed(1, new byte[] {-1, 0});
        DUE.throwsAt("out(0) of nothing", x, 0);
        x.pack(0);
        DUE.same("out(0)", x.out(0), 1);
        DUE.same("out(3)", x.out(3), 255);
        DUE.same("out(5)", x.out(5), 0);
        int[] none = {6, -1, 3000, Integer.MAX_VALUE, Integer.MIN_VALUE};
        for (int i : none) {
            DUE.throwsAt("out(" + i + ")", x, i);
        }
    }

    private static void step() {
        LzmaChains x = Due.fed(1, TEXT);
        x.pack(0);
        DUE.same("how many", x.step(-1, 0), 9);
        int[][] bad = {{-1, 1}, {-1, -1}, {-2, 0}, {9, 0}, {0, 4}, {0, -1}, {Integer.MAX_VALUE, 0}, {0x40000000, 0}};
        for (int[] v : bad) {
            DUE.same("step(" + v[0] + ", " + v[1] + ")", x.step(v[0], v[1]), LzmaChains.BAD);
        }
        LzmaChains plain = Due.fed(1, Due.wild(600));
        plain.pack(0);
        DUE.same("choices of plain chunks", plain.step(-1, 0), 0);
        LzmaChains two = Due.fed(2, Due.run(60, 65));
        two.property(5, 30);
        two.pack(0);
        DUE.same("places in the second block", Due.steps(two), "0,0,1,0 2,1,29,1 0,30,1,0 2,31,29,1");
        LzmaChains many = Due.fed(0, Due.bytes(MANY_SHORTS));
        DUE.same("2,500 bytes", many.open(4096), 2500);
        DUE.same("2,500 choices", many.step(-1, 0), 2500);
        DUE.same("the last that is kept", many.step(1999, 1), 1999);
        DUE.same("the first that is not", many.step(2000, 1), LzmaChains.BAD);
    }

    private static void state() {
        LzmaChains x = Due.fed(0, "abab");
        DUE.same("neither was", x.state(), -1);
        x.pack(3);
        DUE.same("a bad LEVEL", x.state(), -1);
        x.pack(0);
        DUE.same("behind a MATCH", x.state(), 7);
        x.pass();
        x.open(4096);
        DUE.same("opened", x.state(), 7);
        x.open(4096);
        DUE.same("nothing opened", x.state(), 0);
        LzmaChains plain = Due.fed(1, "aaaaaaaaaaaaaaaaaaaaaaaaaaaaaawxyz");
        plain.property(4, 30);
        plain.pack(0);
        DUE.same("two chunks", plain.block(0, 4), 2);
        DUE.same("STATE is as before a plain chunk", plain.state(), 8);
    }

    private static void block() {
        LzmaChains x = Due.fed(2, TEXT);
        x.property(5, 20);
        x.property(4, 7);
        x.pack(0);
        DUE.same("how many", x.block(-1, 0), 2);
        DUE.same("blocks", Due.blocks(x), BLOCKS);
        int[][] bad = {{-1, 1}, {-1, -1}, {-2, 0}, {2, 0}, {0, 5}, {0, -1}, {Integer.MAX_VALUE, 0}, {0x40000000, 0}};
        for (int[] v : bad) {
            DUE.same("block(" + v[0] + ", " + v[1] + ")", x.block(v[0], v[1]), LzmaChains.BAD);
        }
        x.pass();
        x.open(4096);
        DUE.same("opened", Due.blocks(x), BLOCKS);
        LzmaChains alone = Due.fed(0, TEXT);
        alone.pack(0);
        DUE.same("none in form 0", alone.block(-1, 0), 0);
        DUE.same("block 0 of form 0", alone.block(0, 0), LzmaChains.BAD);
        LzmaChains chunks = Due.fed(1, new byte[] {1, 0, 1, 7, 8, 2, 0, 0, 9});
        DUE.same("no end", chunks.open(4096), -19);
        DUE.same("no block then", chunks.block(0, 4), LzmaChains.BAD);
        Due.put(chunks, new byte[] {1, 0, 1, 7, 8, 2, 0, 0, 9, 0});
        DUE.same("with its end", chunks.open(4096), 3);
        DUE.same("block 0 of form 1", Due.blocks(chunks), "0,0,10,3,2");
    }

    private static void check() {
        LzmaChains x = opened("123456789");
        DUE.same("CRC32", x.check(1, 0), 0xcbf43926);
        DUE.same("CRC64, low", x.check(4, 0), 0xdf1939fa);
        DUE.same("CRC64, high", x.check(4, 1), 0x995dc9bb);
        int[] sha = {0xba7816bf, 0x8f01cfea, 0x414140de, 0x5dae2223, 0xb00361a3, 0x96177a9c, 0xb410ff61, 0xf20015ad};
        LzmaChains abc = opened("abc");
        for (int i = 0; i < 8; i++) {
            DUE.same("SHA-256 word " + i, abc.check(10, i), sha[i]);
        }
        int[][] bad = {{0, 0}, {0, -1}, {1, 1}, {1, -1}, {4, 2}, {10, 8}, {10, -1}, {2, 0}, {-1, 0}, {11, 0}};
        for (int[] v : bad) {
            DUE.same("check(" + v[0] + ", " + v[1] + ")", x.check(v[0], v[1]), LzmaChains.BAD);
        }
        LzmaChains none = new LzmaChains(0);
        DUE.same("CRC32 of nothing", none.check(1, 0), 0);
        DUE.same("CRC64 of nothing", none.check(4, 0), 0);
        DUE.same("SHA-256 of nothing", none.check(10, 0), 0xe3b0c442);
        for (int size = 50; size < 70; size++) {
            shaOf(size);
        }
        shaOf(1400);
    }

    /** Sizes about 56 and 64, where the padding takes another block. */
    private static void shaOf(int size) {
        byte[] bytes = Due.run(size, 97);
        LzmaChains x = new LzmaChains(0);
        Due.put(x, bytes);
        x.pack(0);
        x.pass();
        x.open(4096);
        try {
            byte[] due = java.security.MessageDigest.getInstance("SHA-256").digest(bytes);
            int first = due[0] << 24 | (due[1] & 255) << 16 | (due[2] & 255) << 8 | due[3] & 255;
            DUE.same("SHA-256 of " + size, x.check(10, 0), first);
        } catch (java.security.NoSuchAlgorithmException e) {
            DUE.same("SHA-256 in the library", 0, 1);
        }
    }

    private static LzmaChains opened(String text) {
        LzmaChains x = Due.fed(0, text);
        x.pack(0);
        x.pass();
        x.open(4096);
        return x;
    }

    private static void turn() {
        LzmaChains x = opened("abdhp");
        DUE.same("DELTA 1", x.turn(0, 1, false), 5);
        DUE.same("less the one before", Due.outHex(x), "6101020408");
        DUE.same("back", x.turn(0, 1, true), 5);
        DUE.same("as it was", Due.outHex(x), Due.hex(Due.text("abdhp")));
        x.turn(0, 4, false);
        DUE.same("DELTA 4", Due.outHex(x), "616264680f");
        x.turn(0, 4, true);
        x.turn(0, 256, false);
        DUE.same("DELTA 256 of five", Due.outHex(x), Due.hex(Due.text("abdhp")));
        DUE.same("turn(0, 0)", x.turn(0, 0, false), LzmaChains.BAD);
        DUE.same("turn(0, 257)", x.turn(0, 257, true), LzmaChains.BAD);
        DUE.same("turn(2, 1)", x.turn(2, 1, false), LzmaChains.BAD);
        DUE.same("turn(-1, 1)", x.turn(-1, 1, false), LzmaChains.BAD);
        LzmaChains code = Due.fed(1, Due.bytes("01000f" + "000000eb" + "ffffffeb" + "010000ea" + "fbffffeb" + "00"));
        code.open(4096);
        DUE.same("BRANCH", code.turn(1, 0, false), 16);
        DUE.same("its place and 8 more", Due.outHex(code), "020000eb" + "020000eb" + "010000ea" + "000000eb");
        code.turn(1, 1, true);
        DUE.same("back", Due.outHex(code), "000000eb" + "ffffffeb" + "010000ea" + "fbffffeb");
        LzmaChains rest = Due.fed(1, Due.bytes("010006" + "00000000" + "0000eb" + "00"));
        rest.open(4096);
        rest.turn(1, 1, false);
        DUE.same("what is no four stays", Due.outHex(rest), "000000000000eb");
        DUE.same("turn of nothing", new LzmaChains(0).turn(0, 1, false), 0);
    }

    private static void count() {
        LzmaChains x = Due.fed(0, TEXT);
        DUE.same("count(0)", x.count(0), 38);
        DUE.same("count(1)", x.count(1), 0);
        x.pack(0);
        DUE.same("count(0) packed", x.count(0), 0);
        DUE.same("count(1) packed", x.count(1), 29);
        DUE.same("count(2)", x.count(2), LzmaChains.BAD);
        DUE.same("count(-1)", x.count(-1), LzmaChains.BAD);
    }

    // Form 0: a LITERAL and 2,499 SHORTs behind it.
    private static final String MANY_SHORTS = "5d00100000c4090000000000000004e6625b8684960ed40b1aac3d511c89f41ee6130eb732b1f0f4bd5051c6a0"
        + "35a1b0433c48c30148c95e64cbb394d4df9af6d073227789ced0dd52ff0c842d8a";
    // Two blocks of 20 and 18 bytes in chunks of 7.
    private static final String BLOCKS = "12,12,30,20,3 60,12,28,18,3";
}
