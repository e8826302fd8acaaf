/**
 * The RULES 1 to 15 that an opening may break, each with what just keeps it and what just breaks it: the place, the
 * RULE, and OUT. The bytes are put together here, choice by choice.
 */
public final class RuleEdgesTest {
    private static final Due DUE = new Due("RuleEdgesTest");
    private static final int MOST = Integer.MAX_VALUE;
    private static final byte[] ABC = Due.text("abc");
    private static final byte[] NONE = {};

    public static void main(String[] args) {
        theFirst();
        tooEarly();
        moreThanItsChunk();
        firstBytes();
        firstOfBits();
        properties();
        beyondWhatThereIs();
        stateOfRefused();
        beyondTheDictionary();
        dictionaryAnew();
        firstChunk();
        nextChunk();
        morePacked();
        beyondTheTold();
        markInPlace();
        codeAtTheEnd();
        lateMark();
        seventhByte();
        secondByteOfHead();
        kinds();
        manyProperties();
        numbers();
        smallHead();
        zeros();
        toldSizes();
        crcs();
        checks();
        index();
        foot();
        behindTheEnd();
        sizeAbove();
        copyAbove();
        plainAbove();
        boxAbove();
        checkKind();
        memory();
        memoryOfBox();
        DUE.finish();
    }

    private static void ask(String what, LzmaChains x, int memory, int answer, int rule, byte[] out) {
        DUE.same(what + ": open", x.open(memory), answer);
        DUE.same(what + ": rule", x.rule(), rule);
        DUE.same(what + ": OUT", Due.brief(x), Due.brief(out));
        DUE.same(what + ": input", x.count(0), 0);
    }

    private static void broken(String what, int form, byte[] bytes, int place, int rule, byte[] out) {
        ask(what, Due.fed(form, bytes), MOST, -10 - place, rule, out);
    }

    private static void right(String what, int form, byte[] bytes, byte[] out) {
        ask(what, Due.fed(form, bytes), MOST, out.length, 0, out);
    }

    private static Maker ab() {
        return new Maker().literals("AB");
    }

    private static byte[] text(String text) {
        return Due.text(text);
    }

    private static byte[] ended(byte[]... chunks) {
        return Maker.join(Maker.join(chunks), Maker.row(0));
    }

    private static byte[] run(int size) {
        return Due.run(size, 65);
    }

    private static void theFirst() {
        DUE.sentence("(the first, as it is read)");
        byte[] box = BoxMaker.plainBox(1, ABC);
        int[] places = {5, 6, 7, 13, 14, 15, 16, 19};
        int[] rules = {2, 8, 14, 8, 8, 8, 8, 8};
        byte[] wrong = box;
        for (int i = places.length - 1; i >= 0; i--) {
            wrong = Maker.changed(wrong, places[i], 60);
            broken("wrong from " + places[i] + " on", 2, wrong, places[i] + 1, rules[i], NONE);
        }
        byte[] alone = Maker.changed(Maker.alone(93, 0xFFFFFFFFL, 3001, ab().bits()), 13, 1);
        broken("memory, size, first byte", 0, alone, 5, 15, NONE);
        broken("properties ahead of them", 0, Maker.changed(alone, 0, 255), 1, 3, NONE);
        broken("size, first byte", 0, Maker.changed(Maker.alone(93, 1, 3001, ab().bits()), 13, 1), 13, 13, NONE);
        byte[] chunk = Maker.changed(Maker.changed(ended(ab().bitChunk(3, 2)), 5, 225), 6, 1);
        broken("properties, first byte", 1, chunk, 6, 3, NONE);
        broken("control, properties, first byte", 1, Maker.changed(chunk, 0, 128), 1, 5, NONE);
    }

    private static void tooEarly() {
        DUE.sentence("1 it ends too early");
        Maker m = new Maker().literals("abc").match(20, 3).literals("x");
        byte[][] whole = {m.alone(24), ended(Maker.plainChunk(1, ABC), new Maker().literals("abc").match(9, 3).bitChunk(3, 12)),
            BoxMaker.plainBox(10, ABC), new Maker().literals("abc").mark().alone(-1)};
        for (int i = 0; i < whole.length; i++) {
            int form = i % 3;
            for (int n = 0; n < whole[i].length; n++) {
                LzmaChains x = Due.fed(form, Maker.cut(whole[i], n));
                DUE.same("the first " + n + " of " + i, x.open(4096), -10 - n);
                DUE.same("rule", x.rule(), 1);
            }
            DUE.same("all of " + i, Due.fed(form, whole[i]).open(4096) > 0 ? 1 : 0, 1);
        }
    }

    private static void moreThanItsChunk() {
        DUE.sentence("(or a coder needs more than its chunk has)");
        Maker m = new Maker().literals("ABCDEF");
        right("as much as it needs", 1, ended(m.bitChunk(3, 6)), text("ABCDEF"));
        broken("one fewer", 1, ended(m.bitChunk(3, 6, m.read() - 1)), 6 + m.read() - 1, 1, text("ABCDE"));
        for (int packed = 1; packed < 5; packed++) {
            broken("only " + packed, 1, ended(m.bitChunk(3, 6, packed)), 6 + packed, 1, NONE);
        }
        byte[] box = BoxMaker.boxOf(1, BoxMaker.head(), ended(m.bitChunk(3, 6, 4)), text("ABCDEF"));
        broken("in a box", 2, box, 24 + 6 + 4, 1, NONE);
    }

    private static void firstBytes() {
        DUE.sentence("2 first bytes");
        byte[] box = BoxMaker.plainBox(1, ABC);
        right("as they are", 2, box, ABC);
        for (int i = 0; i < 6; i++) {
            broken("byte " + i + " more", 2, Maker.changed(box, i, box[i] + 1), i + 1, 2, NONE);
            broken("byte " + i + " less", 2, Maker.changed(box, i, box[i] - 1), i + 1, 2, NONE);
        }
    }

    private static void firstOfBits() {
        DUE.sentence("or a first byte of bits that is not 0");
        int[] others = {1, 2, 128, 255};
        byte[] alone = ab().alone(2);
        byte[] chunk = ended(ab().bitChunk(3, 2));
        byte[] box = BoxMaker.boxOf(1, BoxMaker.head(), chunk, text("AB"));
        right("0 in form 0", 0, alone, text("AB"));
        right("0 in a chunk", 1, chunk, text("AB"));
        right("0 in a box", 2, box, text("AB"));
        for (int b : others) {
            broken(b + " in form 0", 0, Maker.changed(alone, 13, b), 14, 2, NONE);
            broken(b + " in a chunk", 1, Maker.changed(chunk, 6, b), 7, 2, NONE);
            broken(b + " in a box", 2, Maker.changed(box, 30, b), 31, 2, NONE);
        }
    }

    private static void properties() {
        DUE.sentence("3 properties (225 and on; lc and lp above 4 together)");
        for (int b = 0; b < 256; b++) {
            int lc = b % 9;
            int lp = b / 9 % 5;
            if (b >= 225 || lc + lp > 4) {
                broken("form 0, " + b, 0, Maker.alone(b, 4096, 2, ab().bits()), 1, 3, NONE);
                broken("a chunk of kind 3, " + b, 1, Maker.changed(ended(ab().bitChunk(3, 2)), 5, b), 6, 3, NONE);
                byte[] two = ended(Maker.plainChunk(1, ABC), ab().bitChunk(2, 2));
                broken("a chunk of kind 2, " + b, 1, Maker.changed(two, 11, b), 12, 3, ABC);
            } else {
                Maker m = new Maker().with(lc, lp, b / 45).literals("ABABA").match(7, 2);
                right("form 0, " + b, 0, m.alone(12), m.bytes());
                right("a chunk, " + b, 1, ended(m.bitChunk(3, 12)), m.bytes());
            }
        }
    }

    private static void beyondWhatThereIs() {
        DUE.sentence("4 a copy from beyond what there is");
        for (int kind = 1; kind < 7; kind++) {
            Maker m = new Maker();
            m.choice(kind, 2, 1, 0);
            broken("kind " + kind + " where nothing is", 0, m.alone(-1), 13 + m.read(), 4, NONE);
        }
        Maker just = new Maker().literals("ABC").match(2, 3).mark();
        right("to the first byte", 0, just.alone(-1), text("ABCAB"));
        long[] far = {4, 5, 128, 129, 4096, 65536, 0x7FFFFFFFL, 0x80000000L, 0xFFFFFFFFL};
        for (long away : far) {
            Maker m = new Maker().literals("ABC").match(2, away);
            byte[] bytes = Maker.alone(93, 0x7FFFFFFFL, -1, m.bits());
            broken(away + " away", 0, bytes, 13 + m.read(), 4, text("ABC"));
        }
    }

    private static void stateOfRefused() {
        DUE.sentence("STATE behind the last pack() or open()");
        int[] first = {0, 7, 8, 8, 8, 8, 9};
        int[] second = {0, 10, 11, 11, 11, 11, 11};
        for (int kind = 1; kind < 7; kind++) {
            Maker none = new Maker();
            none.choice(kind, 2, 1, 0);
            LzmaChains x = Due.fed(0, none.alone(-1));
            x.open(4096);
            DUE.same("a copy of kind " + kind + " where nothing is", x.state(), first[kind]);
            DUE.same("it is no choice", x.step(-1, 0), 0);
            if (kind < 6) {
                Maker beyond = ab().match(2, 2);
                beyond.choice(kind, 5, 2, 0);
                LzmaChains y = Due.fed(0, beyond.alone(8));
                y.open(4096);
                DUE.same("rule of one beyond the size", y.rule(), 6);
                DUE.same("a copy of kind " + kind + " beyond the size", y.state(), second[kind]);
                DUE.same("it is no choice", y.step(-1, 0), 3);
            }
        }
        LzmaChains mark = Due.fed(1, ended(ab().mark().bitChunk(3, 5)));
        mark.open(4096);
        DUE.same("an END MARK in a chunk", mark.state(), 7);
        DUE.same("it is no choice", mark.step(-1, 0), 2);
    }

    private static void beyondTheDictionary() {
        DUE.sentence("or the dictionary's size");
        for (int size = 0; size < 5; size++) {
            for (int away = 1; away < 7; away++) {
                Maker m = new Maker().literals("ABCDEF").match(3, away);
                byte[] bytes = Maker.alone(93, size, 9, m.bits());
                String what = away + " away of " + size;
                if (away <= size) {
                    right("form 0, " + what, 0, bytes, m.bytes());
                } else {
                    broken("form 0, " + what, 0, bytes, 13 + m.read(), 4, text("ABCDEF"));
                }
                LzmaChains x = Due.fed(1, ended(m.bitChunk(3, 9)));
                boolean set = x.property(3, size) == 1;
                boolean far = set && away > size;
                ask("form 1, " + what, x, 4096, far ? -10 - 6 - m.read() : 9, far ? 4 : 0, far ? text("ABCDEF") : m.bytes());
            }
        }
        Maker zero = new Maker().literals("A").shortRep();
        broken("SHORT of 0", 0, Maker.alone(93, 0, 2, zero.bits()), 13 + zero.read(), 4, text("A"));
    }

    private static void dictionaryAnew() {
        DUE.sentence("1: the dictionary begins anew");
        Maker behind = new Maker().plain(1, ABC).plain(1, text("d")).chunk(2).literals("e").match(2, 2);
        right("back to the new beginning", 1,
            ended(Maker.plainChunk(1, ABC), Maker.plainChunk(1, text("d")), behind.bitChunk(2, 3)), text("abcdede"));
        Maker over = new Maker().plain(1, ABC).plain(1, text("d")).chunk(2).literals("e").match(2, 3);
        broken("over the new beginning", 1,
            ended(Maker.plainChunk(1, ABC), Maker.plainChunk(1, text("d")), over.bitChunk(2, 3)),
            6 + 4 + 6 + over.read(), 4, text("abcde"));
        DUE.sentence("3 so, and the dictionary begins anew");
        byte[] first = Maker.plainChunk(1, ABC);
        Maker three = new Maker().plain(1, ABC).chunk(3).literals("e").match(2, 2);
        broken("kind 3", 1, ended(first, three.bitChunk(3, 3)), 6 + 6 + three.read(), 4, text("abce"));
        Maker two = new Maker().plain(1, ABC).chunk(2).literals("e").match(2, 4);
        right("kind 2", 1, ended(first, two.bitChunk(2, 3)), text("abceab"));
        Maker far = new Maker().plain(1, ABC).chunk(2).literals("e").match(2, 5);
        broken("kind 2, too far", 1, ended(first, far.bitChunk(2, 3)), 6 + 6 + far.read(), 4, text("abce"));
        DUE.sentence("each block for itself");
        Maker block = new Maker().match(2, 3);
        byte[] blocks = Maker.join(BoxMaker.plainBlock(1, ABC), BoxMaker.head(), block.bitChunk(3, 2));
        broken("from the block before", 2, Maker.join(BoxMaker.start(1), blocks), 12 + 24 + 12 + 6 + block.read(), 4, ABC);
    }

    private static void firstChunk() {
        DUE.sentence("The first chunk must be 1 or of kind 3");
        byte[] bits = ab().bits();
        for (int control = 1; control < 256; control++) {
            if (control == 1) {
                right("control 1", 1, ended(Maker.plainChunk(1, ABC)), ABC);
            } else if (control < 0xE0) {
                broken("control " + control, 1, Maker.join(Maker.row(control, 0, 1, 0, 6, 93), bits), 1, 5, NONE);
                byte[] second = Maker.join(BoxMaker.plainBlock(1, ABC), BoxMaker.head(), Maker.row(control, 0, 1, 0, 6));
                broken("control " + control + " in a block", 2, Maker.join(BoxMaker.start(1), second), 12 + 24 + 12 + 1, 5, ABC);
            } else {
                LzmaChains x = Due.fed(1, Maker.join(Maker.row(control, 0, 1, 0, bits.length - 1, 93), bits, Maker.row(0)));
                DUE.same("control " + control, x.open(4096), control == 0xE0 ? 2 : -10 - 6 - bits.length);
                DUE.same("rule", x.rule(), control == 0xE0 ? 0 : 1);
            }
        }
        right("the end as the first", 1, Maker.row(0), NONE);
        DUE.sentence("or 3 .. 127");
        for (int control = 3; control < 128; control++) {
            broken("control " + control, 1, Maker.join(Maker.plainChunk(1, ABC), Maker.row(control, 0, 0, 0)), 7, 5, ABC);
        }
    }

    private static void nextChunk() {
        DUE.sentence("behind 1 the next one with bits must be of kind 2 or 3, behind 2 of kind 1 or above");
        for (int kind = 0; kind < 4; kind++) {
            behind("1", kind, 2);
            behind("11", kind, 2);
            behind("12", kind, 2);
            behind("122", kind, 2);
            behind("b", kind, 0);
            behind("b2", kind, 1);
            behind("b22", kind, 1);
            behind("b1", kind, 2);
            behind("b12", kind, 2);
            behind("b21", kind, 2);
            behind("1bb", kind, 0);
            behind("1b2", kind, 1);
            behind("1b2b", kind, 0);
        }
    }

    /** Chunks of three bytes: plain ones, and b with bits; then one with bits of a kind, which must be the least or above. */
    private static void behind(String before, int kind, int least) {
        Maker m = new Maker();
        byte[] all = NONE;
        int next = 3;
        for (int i = 0; i < before.length(); i++) {
            char c = before.charAt(i);
            if (c == 'b') {
                m.chunk(next).literals("xyz");
                all = Maker.join(all, m.bitChunk(next, 3));
                next = 0;
            } else {
                m.plain(c - '0', ABC);
                all = Maker.join(all, Maker.plainChunk(c - '0', ABC));
                next = c == '1' || next > 1 ? 2 : 1;
            }
        }
        byte[] out = m.bytes();
        m.chunk(kind).literals("de").match(3, 2);
        byte[] whole = ended(all, m.bitChunk(kind, 5));
        if (kind >= least) {
            right("kind " + kind + " behind " + before, 1, whole, m.bytes());
        } else {
            broken("kind " + kind + " behind " + before, 1, whole, all.length + 1, 5, out);
        }
    }

    private static void morePacked() {
        DUE.sentence("or that has more packed bytes than its bits use");
        Maker m = new Maker().literals("ABC").match(9, 3);
        right("as many", 1, ended(m.bitChunk(3, 12)), m.bytes());
        for (int more = 1; more < 4; more++) {
            byte[] chunk = Maker.join(m.bitChunk(3, 12, m.read() + more), new byte[more]);
            broken(more + " more", 1, ended(chunk), 6 + m.read(), 5, m.bytes());
        }
        byte[] chunks = ended(Maker.join(m.bitChunk(3, 12, m.read() + 1), new byte[1]));
        broken("in a box", 2, BoxMaker.boxOf(1, BoxMaker.head(), chunks, m.bytes()), 24 + 6 + m.read(), 5, NONE);
    }

    private static void beyondTheTold() {
        DUE.sentence("6 a copy beyond the bytes that are told (none of it is done)");
        for (int told = 3; told < 9; told++) {
            Maker m = ab().match(5, 2);
            int place = m.read();
            if (told == 7) {
                right("form 0, just so", 0, m.alone(7), m.bytes());
                right("a chunk, just so", 1, ended(m.bitChunk(3, 7)), m.bytes());
            } else if (told < 7) {
                broken("form 0, " + told + " are told", 0, m.alone(told), 13 + place, 6, text("AB"));
                broken("a chunk, " + told + " are told", 1, ended(m.bitChunk(3, told)), 6 + place, 6, text("AB"));
            }
        }
        Maker rep = ab().match(2, 2).rep(0, 2);
        broken("a REP", 0, rep.alone(5), 13 + rep.read(), 6, text("ABAB"));
        Maker second = new Maker().literals("AB").chunk(0).match(4, 2);
        byte[] first = ab().bitChunk(3, 2);
        broken("into the chunk behind", 1, ended(first, second.bitChunk(0, 3)), first.length + 5 + second.read(), 6, text("AB"));
    }

    private static void markInPlace() {
        DUE.sentence("7 the END MARK where it may not be");
        Maker m = ab().mark();
        right("without a size", 0, m.alone(-1), text("AB"));
        right("at the size", 0, m.alone(2), text("AB"));
        for (int size = 3; size < 6; size++) {
            broken("before the size", 0, m.alone(size), 13 + m.read(), 7, text("AB"));
        }
        broken("in a chunk", 1, ended(m.bitChunk(3, 5)), 6 + m.read(), 7, text("AB"));
        Maker first = new Maker().mark();
        broken("as the first in a chunk", 1, ended(first.bitChunk(3, 5)), 6 + first.read(), 7, NONE);
        right("as the first", 0, first.alone(-1), NONE);
        DUE.sentence("2^32 is the END MARK (any LENGTH; packing: 2)");
        int[] lengths = {2, 3, 9, 10, 17, 18, 272, 273};
        for (int length : lengths) {
            Maker any = ab().match(length, Maker.MARK);
            right("LENGTH " + length, 0, any.alone(-1), text("AB"));
            right("LENGTH " + length + " at the size", 0, any.alone(2), text("AB"));
        }
        LzmaChains x = Due.fed(0, "AB");
        x.property(7, 1);
        x.pack(0);
        DUE.same("packing", Due.outHex(x), Due.hex(m.alone(-1)));
        DUE.sentence("nothing comes behind it");
        broken("a byte behind it", 0, Maker.join(m.alone(-1), Maker.row(0)), 13 + m.read(), 12, text("AB"));
    }

    private static void codeAtTheEnd() {
        DUE.sentence("or CODE not 0 at the end");
        Maker marked = ab().mark();
        Maker plain = ab();
        int n = marked.read() - 1;
        for (int v = 1; v < 256; v += 127) {
            byte[] alone = Maker.changed(marked.alone(-1), 13 + n, v);
            broken("behind the END MARK, " + v, 0, alone, 13 + n + 1, 7, text("AB"));
            byte[] chunk = Maker.changed(ended(plain.bitChunk(3, 2)), 6 + plain.read() - 1, v);
            broken("of a chunk, " + v, 1, chunk, 6 + plain.read(), 7, text("AB"));
            byte[] box = BoxMaker.boxOf(1, BoxMaker.head(), chunk, text("AB"));
            broken("of a chunk in a box, " + v, 2, box, 24 + 6 + plain.read(), 7, NONE);
        }
    }

    private static void lateMark() {
        DUE.sentence("(of form 0 with the size told: only the MARK may follow, if CODE is not 0)");
        right("CODE is 0", 0, ab().alone(2), text("AB"));
        right("the MARK follows", 0, ab().mark().alone(2), text("AB"));
        right("of no bytes, CODE is 0", 0, new Maker().alone(0), NONE);
        right("of no bytes, the MARK follows", 0, new Maker().mark().alone(0), NONE);
        Maker literal = ab().begunChoice(0, 0);
        broken("a LITERAL follows", 0, ab().literals("CD").alone(2), 13 + literal.read(), 7, text("AB"));
        Maker rep = ab().begunChoice(1, 1);
        broken("a REP follows", 0, ab().rep(0, 2).alone(2), 13 + rep.read(), 7, text("AB"));
        broken("SHORT follows", 0, ab().shortRep().alone(2), 13 + rep.read(), 7, text("AB"));
        long[] far = {1, 2, 3, 4096, 0xFFFFFFFFL};
        for (long away : far) {
            Maker match = ab().match(2, away);
            broken("a MATCH follows", 0, match.alone(2), 13 + match.read(), 7, text("AB"));
        }
        Maker[] others = {ab().match(3, 2), ab().rep(0, 4), ab().shortRep(), ab().match(2, 1).match(5, 3), ab().match(4, 1).rep(0, 5),
            ab().match(3, 1).literals("C"), ab().rep(1, 2).literals("C"), ab().shortRep().literals("CD")};
        for (Maker m : others) {
            int size = m.size();
            byte[] out = m.bytes();
            right("nothing follows STATE " + m.state(), 0, m.alone(size), out);
            right("the MARK follows STATE " + m.state(), 0, m.mark().alone(size), out);
        }
        Maker marked = ab().mark();
        byte[] more = Maker.changed(marked.alone(2), 13 + marked.read() - 1, 1);
        broken("CODE is not 0 behind the MARK", 0, more, 13 + marked.read(), 7, text("AB"));
        broken("CODE is 0, and bytes follow", 0, Maker.join(ab().alone(2), new byte[3]), 13 + ab().read(), 12, text("AB"));
    }

    private static void seventhByte() {
        DUE.sentence("8 the seventh byte of a box");
        byte[] box = BoxMaker.plainBox(1, ABC);
        for (int v = 1; v < 256; v++) {
            broken("seventh byte " + v, 2, Maker.changed(box, 6, v), 7, 8, NONE);
        }
    }

    private static byte[] boxWith(byte[] head) {
        return BoxMaker.boxOf(1, head, BoxMaker.plainChunks(ABC), ABC);
    }

    private static void secondByteOfHead() {
        DUE.sentence("bits 2 to 5 of its second byte");
        for (int bits = 0; bits < 16; bits++) {
            byte[] box = boxWith(BoxMaker.head(4 * bits, 33, 1, 0));
            if (bits == 0) {
                right("none of them", 2, box, ABC);
            } else {
                broken("bits " + 4 * bits, 2, box, 14, 8, NONE);
                broken("bits " + 4 * bits + " and 7", 2, boxWith(BoxMaker.head(4 * bits + 128, 3, 33, 1, 0)), 14, 8, NONE);
            }
        }
    }

    private static void kinds() {
        DUE.sentence("filters (1 to 4, a kind that is none where it was read, the last the chunks, no other one so");
        for (int kind = 0; kind < 128; kind++) {
            byte[] alone = boxWith(BoxMaker.head(0, kind, 1, 0));
            if (kind == 33) {
                right("the chunks alone", 2, alone, ABC);
            } else {
                broken("kind " + kind + " alone", 2, alone, 15, 8, NONE);
            }
            if (kind != 3 && kind != 7) {
                broken("kind " + kind + " first", 2, boxWith(BoxMaker.head(1, kind, 1, 0, 33, 1, 0)), 15, 8, NONE);
            }
            if (kind != 33) {
                broken("kind " + kind + " last", 2, boxWith(BoxMaker.head(1, 7, 0, kind, 1, 0)), 17, 8, NONE);
            }
        }
        broken("a kind of two bytes", 2, boxWith(BoxMaker.head(0, 161, 1, 1, 0)), 16, 8, NONE);
        byte[][] heads = {BoxMaker.head(0, 33, 1, 0), BoxMaker.head(1, 7, 0, 33, 1, 0), BoxMaker.head(2, 7, 0, 7, 0, 33, 1, 0),
            BoxMaker.head(3, 7, 0, 7, 0, 7, 0, 33, 1, 0)};
        for (int i = 0; i < 4; i++) {
            right(i + 1 + " filters", 2, boxWith(heads[i]), ABC);
        }
        int[] told = {3, 3, 1, 0, 3, 1, 255, 7, 0, 33, 1, 0};
        byte[] sums = text("\1\3\6");
        right("four of all kinds", 2, BoxMaker.boxOf(1, BoxMaker.head(told), BoxMaker.plainChunks(text("\1\2\3")), sums), sums);
    }

    private static void manyProperties() {
        DUE.sentence("each with as many properties as told");
        for (int n = 0; n < 4; n++) {
            int[] chunks = {0, 33, n, 0, 0, 0};
            int[] delta = {1, 3, n, 0, 33, 1, 0};
            int[] branch = {1, 7, n, 33, 1, 0, 0};
            if (n == 1) {
                right("one of the chunks", 2, boxWith(BoxMaker.head(chunks)), ABC);
                byte[] sums = Maker.row(97, 195, 38);
                right("one of DELTA", 2, BoxMaker.boxOf(1, BoxMaker.head(delta), BoxMaker.plainChunks(ABC), sums), sums);
            } else {
                broken(n + " of the chunks", 2, boxWith(BoxMaker.head(chunks)), 16, 8, NONE);
                broken(n + " of DELTA", 2, boxWith(BoxMaker.head(delta)), 16, 8, NONE);
            }
            if (n == 0) {
                right("none of BRANCH", 2, boxWith(BoxMaker.head(branch)), ABC);
            } else {
                broken(n + " of BRANCH", 2, boxWith(BoxMaker.head(branch)), 16, 8, NONE);
            }
        }
    }

    private static void numbers() {
        DUE.sentence("no last 0 but of one byte; 9 bytes at most");
        broken("a last 0 in a kind", 2, boxWith(BoxMaker.head(0, 33 + 128, 0, 1, 0)), 16, 8, NONE);
        broken("a last 0 in a count", 2, boxWith(BoxMaker.head(0, 33, 129, 0, 0)), 17, 8, NONE);
        broken("a last 0 in a size", 2, boxWith(BoxMaker.head(64, 7 + 128, 0, 33, 1, 0)), 16, 8, NONE);
        broken("a last 0 of three", 2, boxWith(BoxMaker.head(64, 7 + 128, 128, 0, 33, 1, 0)), 17, 8, NONE);
        broken("0 of one byte is a number", 2, boxWith(BoxMaker.head(128, 0, 33, 1, 0)), 12 + 12 + 7, 8, NONE);
        byte[] just = Due.wild(128);
        byte[] first = BoxMaker.boxOf(1, BoxMaker.head(128, 128, 1, 33, 1, 0), BoxMaker.plainChunks(just), just);
        right("128", 2, first, just);
        byte[] wide = Due.wild(200);
        byte[] two = BoxMaker.boxOf(1, BoxMaker.head(128, 72 + 128, 1, 33, 1, 0), BoxMaker.plainChunks(wide), wide);
        right("a number of two bytes", 2, two, wide);
        int[] nine = {64, 129, 129, 129, 129, 129, 129, 129, 129, 1, 33, 1, 0};
        broken("nine bytes are a number", 2, boxWith(BoxMaker.head(nine)), 12 + 20 + 7, 8, NONE);
        int[] ten = {64, 129, 129, 129, 129, 129, 129, 129, 129, 129, 1, 33, 1, 0};
        broken("ten bytes are none", 2, boxWith(BoxMaker.head(ten)), 14 + 9, 8, NONE);
    }

    private static void smallHead() {
        DUE.sentence("8 .. a head");
        broken("no room for the property", 2, boxWith(BoxMaker.headOf(2, 0, 33, 1)), 16, 8, NONE);
        broken("no room for the count", 2, boxWith(BoxMaker.headOf(2, 64, 7, 33)), 16, 8, NONE);
        broken("no room for a number's rest", 2, boxWith(BoxMaker.headOf(2, 64, 135, 135)), 16, 8, NONE);
        broken("no room for the second filter", 2, boxWith(BoxMaker.headOf(2, 1, 7, 0)), 16, 8, NONE);
        right("more room than it needs", 2, boxWith(BoxMaker.headOf(100, 0, 33, 1, 0)), ABC);
        byte[] most = BoxMaker.headOf(256, 0, 33, 1, 0);
        DUE.same("the largest head", most.length, 1024);
        right("the largest head", 2, boxWith(most), ABC);
    }

    private static void zeros() {
        DUE.sentence("0s of a block that are none");
        for (int at = 5; at < 16; at++) {
            int[] told = new int[15];
            told[1] = 33;
            told[2] = 1;
            told[at - 1] = 1;
            broken("byte " + at + " of a head", 2, boxWith(BoxMaker.head(told)), 12 + at + 1, 8, NONE);
        }
        for (int size = 1; size < 9; size++) {
            byte[] bytes = Due.wild(size);
            byte[] box = BoxMaker.plainBox(1, bytes);
            int end = 12 + 12 + 4 + size;
            right("0s behind " + size, 2, box, bytes);
            for (int at = end; at % 4 != 0; at++) {
                broken("0s behind " + size + ", " + at, 2, Maker.changed(box, at, 128), at + 1, 8, NONE);
            }
        }
    }

    private static void toldSizes() {
        DUE.sentence("sizes told that are others");
        int place = 12 + 12 + 7;
        for (int told = 0; told < 12; told++) {
            byte[] packed = boxWith(BoxMaker.head(64, told, 33, 1, 0));
            byte[] whole = boxWith(BoxMaker.head(128, told, 33, 1, 0));
            if (told == 7) {
                right("packed " + told, 2, packed, ABC);
            } else {
                broken("packed " + told, 2, packed, place, 8, NONE);
            }
            if (told == 3) {
                right("whole " + told, 2, whole, ABC);
            } else {
                broken("whole " + told, 2, whole, place, 8, NONE);
            }
        }
        right("both", 2, boxWith(BoxMaker.head(192, 7, 3, 33, 1, 0)), ABC);
        byte[] second = BoxMaker.block(1, BoxMaker.head(192, 7, 3, 33, 1, 0), BoxMaker.plainChunks(ABC), ABC);
        byte[] blocks = Maker.join(BoxMaker.plainBlock(1, ABC), second);
        right("of the second block", 2, BoxMaker.box(1, blocks, BoxMaker.index(23, 3, 23, 3)), text("abcabc"));
        byte[] other = BoxMaker.block(1, BoxMaker.head(128, 6, 33, 1, 0), BoxMaker.plainChunks(ABC), ABC);
        broken("both blocks' bytes in the second", 2, Maker.join(BoxMaker.start(1), BoxMaker.plainBlock(1, ABC), other),
            place + 24, 8, ABC);
        broken("the other way round", 2, boxWith(BoxMaker.head(192, 3, 7, 33, 1, 0)), place, 8, NONE);
    }

    private static void crcs() {
        DUE.sentence("9 a CRC32 of the box");
        byte[] box = BoxMaker.plainBox(1, ABC);
        int index = 12 + 12 + 8 + 4;
        int foot = index + 8;
        for (int i = 0; i < 4; i++) {
            broken("of the two bytes", 2, Maker.changed(box, 8 + i, box[8 + i] ^ 1), 12, 9, NONE);
            broken("of a head", 2, Maker.changed(box, 20 + i, box[20 + i] ^ 1), 24, 9, NONE);
            broken("of the INDEX", 2, Maker.changed(box, index + 4 + i, box[index + 4 + i] ^ 1), foot, 9, ABC);
            broken("of the FOOT", 2, Maker.changed(box, foot + i, box[foot + i] ^ 1), foot + 10, 9, ABC);
        }
        for (int i = 4; i < 10; i++) {
            broken("the FOOT's six behind it", 2, Maker.changed(box, foot + i, box[foot + i] ^ 1), foot + 10, 9, ABC);
        }
        DUE.sentence("CRC32s when all four are read");
        for (int n = 0; n < 4; n++) {
            byte[] wrong = Maker.changed(box, index + 4, box[index + 4] ^ 1);
            broken("of the INDEX, cut off", 2, Maker.cut(wrong, index + 4 + n), index + 4 + n, 1, ABC);
        }
    }

    private static void checks() {
        DUE.sentence("10 the check of a block");
        int[] kinds = {0, 1, 4, 10};
        int[] sizes = {0, 4, 8, 32};
        for (int k = 0; k < 4; k++) {
            byte[] box = BoxMaker.plainBox(kinds[k], ABC);
            right("kind " + kinds[k], 2, box, ABC);
            for (int i = 0; i < sizes[k]; i++) {
                byte[] wrong = Maker.changed(box, 32 + i, box[32 + i] ^ 128);
                broken("kind " + kinds[k] + ", byte " + i, 2, wrong, 32 + sizes[k], 10, NONE);
            }
        }
        byte[] delta = BoxMaker.boxOf(4, BoxMaker.head(1, 3, 1, 0, 33, 1, 0), BoxMaker.plainChunks(ABC), Maker.row(97, 195, 38));
        right("of the bytes behind the filters", 2, delta, Maker.row(97, 195, 38));
        byte[] wrong = BoxMaker.boxOf(4, BoxMaker.head(1, 3, 1, 0, 33, 1, 0), BoxMaker.plainChunks(ABC), ABC);
        broken("of the bytes ahead of them", 2, wrong, 40, 10, NONE);
    }

    private static void index() {
        DUE.sentence("bytes of the INDEX and FOOT are looked at one by one (11)");
        byte[] blocks = Maker.join(BoxMaker.plainBlock(1, ABC), BoxMaker.plainBlock(1, text("defgh")));
        byte[] box = BoxMaker.box(1, blocks, BoxMaker.index(23, 3, 25, 5));
        byte[] all = text("abcdefgh");
        int at = 12 + blocks.length;
        right("as it is", 2, box, all);
        for (int i = 1; i < 8; i++) {
            for (int v = 1; v < 256; v *= 2) {
                broken("byte " + i, 2, Maker.changed(box, at + i, box[at + i] ^ v), at + i + 1, 11, all);
            }
        }
        int[][] wrong = {{0, 1, 23, 3}, {0, 3, 23, 3, 25, 5}, {0, 2, 24, 3, 25, 5}, {0, 2, 25, 5, 23, 3}, {0, 2, 23, 4, 25, 5}};
        int[] places = {2, 2, 3, 3, 4};
        for (int i = 0; i < wrong.length; i++) {
            byte[] other = BoxMaker.box(1, blocks, BoxMaker.closed(Maker.row(wrong[i])));
            broken("another INDEX", 2, other, at + places[i], 11, all);
        }
        byte[] longer = BoxMaker.box(1, blocks, BoxMaker.closed(Maker.row(0, 130, 0, 23, 3, 25, 5)));
        broken("a number with a last 0", 2, longer, at + 2, 11, all);
        byte[] wide = Due.wild(300);
        right("numbers of two bytes", 2, BoxMaker.plainBox(1, wide), wide);
        right("no blocks", 2, BoxMaker.box(1, NONE, BoxMaker.index()), NONE);
        broken("one block told of none", 2, BoxMaker.box(1, NONE, BoxMaker.index(23, 3)), 14, 11, NONE);
        right("a block without bytes", 2, BoxMaker.boxOf(1, BoxMaker.head(), Maker.row(0), NONE), NONE);
    }

    private static void foot() {
        DUE.sentence("the FOOT's CRC32 and the six behind it are read whole, then that is looked at (9), then these (11)");
        byte[] block = BoxMaker.plainBlock(1, ABC);
        byte[] index = BoxMaker.index(23, 3);
        byte[] front = Maker.join(BoxMaker.start(1), block, index);
        int end = front.length + 10;
        right("as it is", 2, Maker.join(front, BoxMaker.foot(8, 0, 1)), ABC);
        broken("a smaller INDEX", 2, Maker.join(front, BoxMaker.foot(4, 0, 1)), end, 11, ABC);
        broken("a larger INDEX", 2, Maker.join(front, BoxMaker.foot(12, 0, 1)), end, 11, ABC);
        broken("the largest INDEX", 2, Maker.join(front, BoxMaker.foot(0, 0, 1)), end, 11, ABC);
        broken("a first byte that is not 0", 2, Maker.join(front, BoxMaker.foot(8, 1, 1)), end, 11, ABC);
        int[] kinds = {0, 2, 4, 10, 129};
        for (int kind : kinds) {
            broken("kind " + kind, 2, Maker.join(front, BoxMaker.foot(8, 0, kind)), end, 11, ABC);
        }
        for (int n = 0; n < 9; n++) {
            byte[] blocks = {};
            int[] told = new int[2 * n];
            for (int i = 0; i < n; i++) {
                blocks = Maker.join(blocks, block);
                told[2 * i] = 23;
                told[2 * i + 1] = 3;
            }
            byte[] all = Maker.join(BoxMaker.start(1), blocks, BoxMaker.index(told));
            int size = BoxMaker.index(told).length;
            byte[] out = text("abcabcabcabcabcabcabcabcabc".substring(0, 3 * n));
            right(n + " blocks", 2, Maker.join(all, BoxMaker.foot(size, 0, 1)), out);
            broken(n + " blocks, more told", 2, Maker.join(all, BoxMaker.foot(size + 4, 0, 1)), all.length + 10, 11, out);
            broken(n + " blocks, less told", 2, Maker.join(all, BoxMaker.foot(size - 4, 0, 1)), all.length + 10, 11, out);
        }
        byte[] right = Maker.join(front, BoxMaker.foot(8, 0, 1));
        broken("no 89", 2, Maker.changed(right, end, 88), end + 1, 11, ABC);
        broken("no 90", 2, Maker.changed(right, end + 1, 89), end + 2, 11, ABC);
        byte[] both = Maker.join(front, BoxMaker.foot(12, 0, 1));
        broken("a larger INDEX and another CRC32", 2, Maker.changed(both, front.length, both[front.length] ^ 1), end, 9, ABC);
    }

    private static void behindTheEnd() {
        DUE.sentence("12 bytes behind the end");
        Maker m = ab();
        byte[][] whole = {m.alone(2), ended(m.bitChunk(3, 2)), BoxMaker.plainBox(1, text("AB")), m.mark().alone(-1)};
        for (int i = 0; i < whole.length; i++) {
            right("nothing behind " + i, i % 3, whole[i], text("AB"));
            for (int b = 0; b < 256; b += 51) {
                broken(b + " behind " + i, i % 3, Maker.join(whole[i], Maker.row(b)), whole[i].length, 12, text("AB"));
            }
            byte[] twice = Maker.join(whole[i], whole[i]);
            broken("all of it again behind " + i, i % 3, twice, whole[i].length, 12, text("AB"));
        }
    }

    /** Equal bytes as choices. */
    private static Maker full(int size) {
        Maker m = new Maker().literal(65);
        while (m.size() < size) {
            int left = size - m.size();
            if (left == 1) {
                m.shortRep();
            } else {
                m.rep(0, Math.min(left, 273));
            }
        }
        return m;
    }

    private static void sizeAbove() {
        DUE.sentence("13 OUT would be above 3,000 (of form 0 with a size: where that is read");
        right("3,000", 0, full(3000).alone(3000), run(3000));
        long[] sizes = {3001, 65536, 1L << 31, (1L << 32) + 5, 1L << 32, 1L << 62, Long.MIN_VALUE, Long.MIN_VALUE + 2, -2};
        for (long size : sizes) {
            broken("size " + size, 0, full(3000).alone(size), 13, 13, NONE);
        }
        byte[] cut = Maker.cut(full(3000).alone(3001), 12);
        broken("3,001, cut off", 0, cut, 12, 1, NONE);
    }

    private static void copyAbove() {
        DUE.sentence("none of a copy is done");
        right("3,000 and the END MARK", 0, full(3000).mark().alone(-1), run(3000));
        Maker literal = full(3000).literal(66);
        broken("a LITERAL", 0, literal.alone(-1), 13 + literal.read(), 13, run(3000));
        Maker shortRep = full(3000).shortRep();
        broken("SHORT", 0, shortRep.alone(-1), 13 + shortRep.read(), 13, run(3000));
        for (int before = 2998; before <= 3000; before++) {
            Maker m = full(before).match(3, 7);
            broken("three behind " + before, 0, m.alone(-1), 13 + m.read(), 13, run(before));
        }
        Maker just = full(2997).match(3, 7).mark();
        right("three behind 2,997", 0, just.alone(-1), run(3000));
        Maker far = full(2728).match(273, 7);
        broken("273 behind 2,728", 0, far.alone(-1), 13 + far.read(), 13, run(2728));
        Maker chunk = full(2998).match(3, 7);
        broken("in a chunk", 1, ended(chunk.bitChunk(3, 3001)), 6 + chunk.read(), 13, run(2998));
        Maker last = full(3000).literal(66);
        broken("a LITERAL in a chunk", 1, ended(last.bitChunk(3, 3001)), 6 + last.read(), 13, run(3000));
    }

    private static void plainAbove() {
        DUE.sentence("of a plain chunk behind the byte");
        for (int before = 2998; before <= 3000; before++) {
            byte[] bits = full(before).bitChunk(3, before);
            byte[] whole = ended(bits, Maker.plainChunk(2, run(4)));
            broken("four behind " + before, 1, whole, bits.length + 3 + 3000 - before + 1, 13, run(3000));
        }
        byte[] bits = full(2996).bitChunk(3, 2996);
        right("four behind 2,996", 1, ended(bits, Maker.plainChunk(2, run(4))), run(3000));
        byte[] most = Maker.join(Maker.row(1, 255, 255), run(1400));
        broken("65,536 are told", 1, most, 1403, 1, run(1400));
        byte[] head = Maker.join(full(3000).bitChunk(3, 3000), Maker.row(2, 0, 3));
        broken("no byte of it is there", 1, head, head.length, 1, run(3000));
    }

    private static void boxAbove() {
        DUE.sentence("13 OUT would be above 3,000");
        byte[] bytes = run(2000);
        byte[] half = BoxMaker.block(1, BoxMaker.head(), ended(full(2000).bitChunk(3, 2000)), bytes);
        Maker m = full(1000);
        byte[] chunks = ended(m.bitChunk(3, 1000));
        int size = 16 + ended(full(2000).bitChunk(3, 2000)).length;
        byte[] blocks = Maker.join(half, BoxMaker.block(1, BoxMaker.head(), chunks, run(1000)));
        right("3,000 in two blocks", 2, BoxMaker.box(1, blocks, BoxMaker.index(size, 2000, 16 + chunks.length, 1000)), run(3000));
        Maker more = full(1000).literal(66);
        byte[] above = Maker.join(BoxMaker.start(1), half, BoxMaker.head(), ended(more.bitChunk(3, 1001)));
        broken("3,001 in two blocks", 2, above, 12 + half.length + 12 + 6 + more.read(), 13, bytes);
    }

    private static void checkKind() {
        DUE.sentence("14 a check's kind that is none of these");
        for (int kind = 0; kind < 256; kind++) {
            byte[] box = BoxMaker.plainBox(kind, ABC);
            if (kind == 0 || kind == 1 || kind == 4 || kind == 10) {
                right("kind " + kind, 2, box, ABC);
            } else {
                broken("kind " + kind, 2, box, 8, 14, NONE);
            }
        }
    }

    private static void memory() {
        DUE.sentence("15 MEMORY: the dictionary's size is above what is told (asked where it is read");
        long[] sizes = {0, 1, 5, 4096, 65536, 0x7FFFFFFEL, 0x7FFFFFFFL, 0x80000000L, 0xFFFFFFFFL};
        int[] memories = {Integer.MIN_VALUE, -1, 0, 1, 4, 5, 4095, 4096, 65535, 65536, 0x7FFFFFFE, MOST};
        for (long size : sizes) {
            for (int memory : memories) {
                LzmaChains x = Due.fed(0, Maker.alone(93, size, 2, ab().bits()));
                boolean above = size > memory;
                ask(size + " in " + memory, x, memory, above ? -15 : 2, above ? 15 : 0, above ? NONE : text("AB"));
            }
        }
        ask("cut off ahead of it", Due.fed(0, Maker.row(93, 255, 255, 255)), 0, -14, 1, NONE);
        ask("cut off behind it", Due.fed(0, Maker.row(93, 1, 0, 0, 0)), 0, -15, 15, NONE);
        ask("properties come ahead of it", Due.fed(0, Maker.row(225, 1, 0, 0, 0)), 0, -11, 3, NONE);
        DUE.sentence("of form 1, whose size is the property, first of all)");
        byte[][] inputs = {NONE, Maker.row(0), Maker.row(77), ended(Maker.plainChunk(1, ABC))};
        int[] answers = {-10, 0, -11, 3};
        int[] rules = {1, 0, 5, 0};
        for (int i = 0; i < inputs.length; i++) {
            for (int memory = -1; memory < 52; memory++) {
                LzmaChains x = Due.fed(1, inputs[i]);
                x.property(3, 50);
                boolean above = memory < 50;
                ask("50 in " + memory, x, memory, above ? -10 : answers[i], above ? 15 : rules[i],
                    !above && i == 3 ? ABC : NONE);
            }
        }
    }

    private static void memoryOfBox() {
        DUE.sentence("33 the chunks (1: the size d of the dictionary: (2 and d's lowest bit) times 2^(d / 2 + 11), 40: 2^32 - 1)");
        for (int d = 0; d < 256; d++) {
            byte[] box = boxWith(BoxMaker.head(0, 33, 1, d));
            long size = d > 40 ? 0 : d == 40 ? 0xFFFFFFFFL : (2L + d % 2) * (1L << d / 2 + 11);
            if (d > 40) {
                broken("d " + d, 2, box, 17, 8, NONE);
            } else if (size > MOST) {
                broken("d " + d, 2, box, 17, 15, NONE);
            } else {
                ask("d " + d, Due.fed(2, box), (int) size, 3, 0, ABC);
                ask("d " + d + ", one less", Due.fed(2, box), (int) size - 1, -27, 15, NONE);
            }
        }
        Maker far = new Maker().literals("A").match(273, 1);
        while (far.size() < 2700) {
            far.rep(0, 200);
        }
        byte[] bytes = far.match(3, far.size()).bytes();
        byte[] chunks = ended(far.bitChunk(3, bytes.length));
        right("a copy from far back", 2, BoxMaker.boxOf(1, BoxMaker.head(), chunks, bytes), bytes);
        byte[] second = Maker.join(BoxMaker.plainBlock(1, ABC), BoxMaker.head(0, 33, 1, 1));
        ask("the second block's", Due.fed(2, Maker.join(BoxMaker.start(1), second)), 6143, -10 - 12 - 24 - 5, 15, ABC);
    }
}
