/** The boundary cases that the promises 27 to 37 name (sheets, images, counts), a test for each sentence. */
public final class SheetEdgesTest {
    public static void main(String[] args) {
        sheet();
        sheetFindings();
        write();
        lowestBits();
        copy();
        copyFindings();
        lays();
        book();
        read();
        image();
        undo();
        tear();
        count();
        status();
        Check.end();
    }

    private static void refused(String what, Check.Call call, int finding) {
        Check.refused(what, Check::camp, call, finding);
    }

    private static void beyond(String what, Check.Call call) {
        Check.refused(what, Check::camp, call, Check.BEYOND);
    }

    private static void sheet() {
        Check.sentence("Promise 27: A sheet has n numbers, all 0, of 8, 16 or 64 bits");
        OneLantern x = new OneLantern();
        int[] widths = {8, 16, 64};
        for (int s = 0; s <= 3; s++) {
            for (int bits : widths) {
                Check.due("of 1", x.sheet(s, bits, 1), 1);
                Check.due("its number", x.write(s, 0, 5), 0);
                Check.due("a second one", x.write(s, 1, 5), Check.BEYOND);
                Check.due("of 40", x.sheet(s, bits, 40), 40);
                Check.due("the first is 0", x.write(s, 0, 5), 0);
                Check.due("the last is 0", x.write(s, 39, 6), 0);
                Check.due("a 41st one", x.write(s, 40, 5), Check.BEYOND);
                Check.due("again of 40", x.sheet(s, bits, 40), 40);
                Check.due("all 0 again", x.write(s, 0, 5) + x.write(s, 39, 5), 0);
                Check.due("of none", x.sheet(s, bits, 0), 0);
                Check.due("it isn't MISSING", x.lays(s), 0);
                Check.due("it has no number", x.write(s, 0, 5), Check.BEYOND);
                Check.due("as long as it was", x.sheet(s, bits, 40), 40);
                Check.due("what was there is 0", x.write(s, 39, 5), 0);
            }
        }
        Check.sentence("Promise 27: bits 0: it is MISSING: n (0 if it is MISSING)");
        x = new OneLantern();
        x.sheet(1, 8, 40);
        x.write(1, 0, 7);
        Check.due("bits 0, n 40", x.sheet(1, 0, 40), 0);
        Check.due("it is MISSING", x.write(1, 0, 5), Check.MISSING);
        Check.due("it was MISSING before", x.sheet(1, 0, 0), 0);
        Check.due("it is MISSING still", x.lays(1), Check.MISSING);
        Check.due("made anew", x.sheet(1, 8, 1), 1);
        Check.due("all 0", x.write(1, 0, 5), 0);
        Check.due("the others are MISSING", x.lays(0), Check.MISSING);
        Check.due("the others are MISSING", x.lays(2), Check.MISSING);
    }

    private static void sheetFindings() {
        Check.sentence("Promise 27: BEYOND: no such sheet, other bits");
        beyond("sheet -1", y -> y.sheet(-1, 8, 1));
        beyond("sheet 4", y -> y.sheet(4, 8, 1));
        beyond("the lowest sheet", y -> y.sheet(Check.LOWEST, 8, 1));
        beyond("the highest sheet", y -> y.sheet(Check.HIGHEST, 8, 1));
        int[] others = {-1, 1, 7, 9, 15, 17, 24, 32, 63, 65, -8, -64, 128, 256, Check.LOWEST, Check.HIGHEST};
        for (int bits : others) {
            beyond("bits " + bits, y -> y.sheet(0, bits, 1));
        }
        Check.sentence("Promise 27: SIZE: n is below 0 (also with bits 0)");
        int[] allBits = {0, 8, 16, 64};
        for (int bits : allBits) {
            refused("n -1 of " + bits, y -> y.sheet(0, bits, -1), Check.SIZE);
            refused("the lowest n of " + bits, y -> y.sheet(0, bits, Check.LOWEST), Check.SIZE);
        }
        Check.sentence("Promise 27: BEYOND: n is above 40 (also with bits 0)");
        for (int bits : allBits) {
            beyond("n 41 of " + bits, y -> y.sheet(0, bits, 41));
            beyond("the highest n of " + bits, y -> y.sheet(0, bits, Check.HIGHEST));
        }
    }

    private static void write() {
        Check.sentence("Promise 28: Number i of a sheet becomes v: what it was. BEYOND: no such sheet. MISSING. BEYOND: no such number");
        OneLantern x = Check.camp();
        Check.due("the first", x.write(2, 0, 1), 4000000000L);
        Check.due("it became that", x.write(2, 0, 1), 1);
        Check.due("the last", x.write(2, 2, 1), 4000000002L);
        Check.due("no other one did", x.write(2, 1, 1), 4000000001L);
        beyond("sheet -1", y -> y.write(-1, 0, 1));
        beyond("sheet 4", y -> y.write(4, 0, 1));
        refused("sheet 3", y -> y.write(3, 0, 1), Check.MISSING);
        refused("sheet 3 at 40", y -> y.write(3, 40, 1), Check.MISSING);
        beyond("number -1", y -> y.write(0, -1, 1));
        beyond("number 3 of three", y -> y.write(0, 3, 1));
        beyond("number 40 of 40", y -> y.write(1, 40, 1));
        beyond("the lowest number", y -> y.write(2, Check.LOWEST, 1));
        beyond("the highest number", y -> y.write(2, Check.HIGHEST, 1));
        x.sheet(3, 64, 0);
        Check.due("number 0 of none", x.write(3, 0, 1), Check.BEYOND);
        x.write(2, 0, Check.BEYOND);
        int findings = x.status(-1);
        Check.due("a number that is as a finding", x.write(2, 0, 1), Check.BEYOND);
        Check.due("is none", x.status(-1), findings);
    }

    private static void wraps(int bits, long v, long becomes) {
        OneLantern x = new OneLantern();
        x.sheet(0, bits, 1);
        x.write(0, 0, v);
        Check.due(v + " in " + bits + " bits", x.write(0, 0, 0), becomes);
    }

    private static void lowestBits() {
        Check.sentence("Promise 28: becomes v (its lowest bits)");
        wraps(8, 127, 127);
        wraps(8, 128, -128);
        wraps(8, 255, -1);
        wraps(8, 256, 0);
        wraps(8, -128, -128);
        wraps(8, -129, 127);
        wraps(8, Long.MAX_VALUE, -1);
        wraps(8, Long.MIN_VALUE, 0);
        wraps(16, 128, 128);
        wraps(16, 256, 256);
        wraps(16, 32767, 32767);
        wraps(16, 32768, -32768);
        wraps(16, 65535, -1);
        wraps(16, 65536, 0);
        wraps(16, -32768, -32768);
        wraps(16, -32769, 32767);
        wraps(64, 65536, 65536);
        wraps(64, 1L << 32, 1L << 32);
        wraps(64, Long.MAX_VALUE, Long.MAX_VALUE);
        wraps(64, Long.MIN_VALUE, Long.MIN_VALUE);
        wraps(64, -1, -1);
    }

    /** Two sheets of 5 and 4 numbers of 64 bits: 1 to 5, and 11 to 14. */
    private static OneLantern twoSheets() {
        OneLantern x = new OneLantern();
        x.sheet(0, 64, 5);
        x.sheet(1, 64, 4);
        for (int i = 0; i < 4; i++) {
            x.write(0, i, i + 1);
            x.write(1, i, i + 11);
        }
        x.write(0, 4, 5);
        return x;
    }

    private static void holds(String what, OneLantern x, int s, long... numbers) {
        for (int i = 0; i < numbers.length; i++) {
            Check.due(what + ", number " + i + " of sheet " + s, x.write(s, i, numbers[i]), numbers[i]);
        }
    }

    private static void copy() {
        Check.sentence("Promise 29: n numbers of a sheet from one on come to another one from one on: n");
        OneLantern x = twoSheets();
        Check.due("as many as the other has", x.copy(0, 1, 1, 0, 4), 4);
        holds("copied", x, 1, 2, 3, 4, 5);
        holds("left", x, 0, 1, 2, 3, 4, 5);
        x = twoSheets();
        Check.due("the last to the first", x.copy(0, 4, 1, 0, 1), 1);
        holds("copied", x, 1, 5, 12, 13, 14);
        Check.due("the first to the last", x.copy(0, 0, 1, 3, 1), 1);
        holds("copied", x, 1, 5, 12, 13, 1);
        Check.due("none from behind the last to behind the last", x.copy(0, 5, 1, 4, 0), 0);
        holds("none came", x, 1, 5, 12, 13, 1);
        x.sheet(2, 64, 0);
        Check.due("none of none", x.copy(2, 0, 2, 0, 0), 0);
        Check.due("one of none", x.copy(2, 0, 0, 0, 1), Check.BEYOND);
        Check.due("one to none", x.copy(0, 0, 2, 0, 1), Check.BEYOND);
        x = new OneLantern();
        x.sheet(3, 64, 40);
        x.sheet(0, 64, 40);
        x.write(3, 0, Long.MIN_VALUE);
        x.write(3, 39, Long.MAX_VALUE);
        Check.due("all 40", x.copy(3, 0, 0, 0, 40), 40);
        Check.due("the first", x.write(0, 0, 0), Long.MIN_VALUE);
        Check.due("the last", x.write(0, 39, 0), Long.MAX_VALUE);
        Check.sentence("Promise 29: (as they all were)");
        x = twoSheets();
        Check.due("on in itself", x.copy(0, 0, 0, 1, 4), 4);
        holds("as they were", x, 0, 1, 1, 2, 3, 4);
        x = twoSheets();
        Check.due("back in itself", x.copy(0, 1, 0, 0, 4), 4);
        holds("as they were", x, 0, 2, 3, 4, 5, 5);
        x = twoSheets();
        Check.due("to its own place", x.copy(0, 0, 0, 0, 5), 5);
        holds("as they were", x, 0, 1, 2, 3, 4, 5);
    }

    private static void copyFindings() {
        Check.sentence("Promise 29: BEYOND: no such sheet (either)");
        beyond("from sheet -1", y -> y.copy(-1, 0, 0, 0, 1));
        beyond("from sheet 4", y -> y.copy(4, 0, 0, 0, 1));
        beyond("to sheet -1", y -> y.copy(0, 0, -1, 0, 1));
        beyond("to sheet 4", y -> y.copy(0, 0, 4, 0, 1));
        Check.sentence("Promise 29: MISSING: one is");
        refused("from sheet 3", y -> y.copy(3, 0, 0, 0, 1), Check.MISSING);
        refused("to sheet 3", y -> y.copy(0, 0, 3, 0, 1), Check.MISSING);
        refused("from and to sheet 3", y -> y.copy(3, 0, 3, 0, 0), Check.MISSING);
        Check.sentence("Promise 29: KIND: they are not of as many bits");
        refused("8 to 16", y -> y.copy(0, 0, 1, 0, 1), Check.KIND);
        refused("16 to 8", y -> y.copy(1, 0, 0, 0, 1), Check.KIND);
        refused("8 to 64, none", y -> y.copy(0, 0, 2, 0, 0), Check.KIND);
        refused("64 to 16", y -> y.copy(2, 0, 1, 0, 1), Check.KIND);
        Check.sentence("Promise 29: BEYOND: one has not so many, or from, to or n is below 0");
        Check.Scene two = SheetEdgesTest::twoSheets;
        int[][] froms = {{0, 6, 0}, {1, 5, 0}, {5, 1, 0}, {6, 0, 0}, {-1, 1, 0}, {-1, 0, 0}, {0, -1, 0}, {0, 5, 0}, {0, 4, 1}, {0, 1, 4},
            {0, 0, 5}, {0, 1, -1}, {0, 0, -1}, {1, -1, 1}, {-1, 2, 0}, {0, 2, -1},
            {Check.HIGHEST, 1, 0}, {1, Check.HIGHEST, 0}, {0, 1, Check.HIGHEST}, {Check.HIGHEST, Check.HIGHEST, Check.HIGHEST},
            {Check.LOWEST, 1, 0}, {0, Check.LOWEST, 0}, {0, 1, Check.LOWEST}, {Check.LOWEST, Check.LOWEST, Check.LOWEST}};
        for (int[] c : froms) {
            Check.refused("copy(0, " + c[0] + ", 1, " + c[2] + ", " + c[1] + ")", two, y -> y.copy(0, c[0], 1, c[2], c[1]), Check.BEYOND);
        }
        Check.refused("on in itself, one too many", two, y -> y.copy(0, 0, 0, 1, 5), Check.BEYOND);
        Check.refused("back in itself, one too many", two, y -> y.copy(0, 1, 0, 0, 5), Check.BEYOND);
    }

    private static void lays() {
        Check.sentence("Promise 30: Numbers of a sheet become NERVE of those at places 0, 1, .. (those that aren't 0 to 99 .. are left out): how many came");
        long[] numbers = {0, 99, -1, 100, 1L << 32, Long.MIN_VALUE, Long.MAX_VALUE, 98};
        int[] nerves = {0, 99, 50, 50, 50, 50, 50, 98};
        OneLantern x = Check.row(0, 0, 0, 0, 0, 0, 0, 0);
        x.sheet(0, 64, 8);
        for (int i = 0; i < 8; i++) {
            x.write(0, i, numbers[i]);
        }
        Check.due("three are 0 to 99", x.lays(0), 3);
        for (int place = 0; place < 8; place++) {
            Check.due("NERVE by " + numbers[place], x.of(place, 4), nerves[place]);
        }
        x.sheet(1, 8, 2);
        x.write(1, 0, 128 + 50);
        x.write(1, 1, 256 + 7);
        Check.due("one of 8 bits", x.lays(1), 1);
        Check.due("178 is none", x.of(0, 4), 0);
        Check.due("263 is 7", x.of(1, 4), 7);
        Check.sentence("Promise 30: (those that .. stand for none, are left out)");
        x = Check.row(0, 0);
        x.sheet(0, 16, 40);
        Check.due("40 for two", x.lays(0), 2);
        Check.due("NERVE of both", x.count(3), 0);
        x.walker(0);
        Check.due("one who comes later", x.of(2, 4), 50);
        x.sheet(1, 16, 1);
        x.write(1, 0, 9);
        Check.due("one for three", x.lays(1), 1);
        Check.due("NERVE of the first", x.of(0, 4), 9);
        Check.due("NERVE of the others", x.of(1, 4) + x.of(2, 4), 50);
        x.sheet(1, 16, 0);
        Check.due("none for three", x.lays(1), 0);
        x = new OneLantern();
        x.sheet(0, 8, 40);
        Check.due("40 for nobody", x.lays(0), 0);
        Check.sentence("Promise 30: BEYOND: no such sheet. MISSING");
        beyond("sheet -1", y -> y.lays(-1));
        beyond("sheet 4", y -> y.lays(4));
        refused("sheet 3", y -> y.lays(3), Check.MISSING);
    }

    private static void book() {
        Check.sentence("Promise 31: STUMBLED of one at a place 0, 1, 2, .. STEPS AHEAD comes to a sheet, as many as it has numbers: how many");
        // the child falls in STEP 648, and that is 39 and 40 AHEAD
        for (int step = 608; step <= 609; step++) {
            OneLantern x = Check.longWarned(step);
            x.sheet(0, 16, 40);
            Check.due("40 numbers", x.book(0, 1), 40);
            Check.due("38 AHEAD of " + step, x.write(0, 38, 0), 0);
            Check.due("39 AHEAD of " + step, x.write(0, 39, 0), step == 609 ? 1 : 0);
            Check.due("STEP", x.now(0), step);
        }
        OneLantern x = Check.dark(2, 0, 0, 0, 0, 0, 0, 0, 5);
        x.set(7, 3, 9998);
        x.sheet(0, 64, 2);
        x.write(0, 1, 5);
        Check.due("the last place", x.book(0, 7), 2);
        Check.due("now", x.write(0, 0, 0), 9998);
        x.sheet(0, 64, 9);
        Check.due("9 numbers", x.book(0, 7), 9);
        Check.due("7 AHEAD", x.write(0, 7, 0), 9998);
        Check.due("8 AHEAD", x.write(0, 8, 0), 9999);
        x.sheet(0, 8, 0);
        Check.due("no numbers", x.book(0, 0), 0);
        x.sheet(0, 8, 1);
        Check.due("one number", x.book(0, 7), 1);
        Check.due("its lowest bits", x.write(0, 0, 0), 14);
        x.set(7, 3, 128);
        x.book(0, 7);
        Check.due("its lowest bits", x.write(0, 0, 0), -128);
        Check.sentence("Promise 31: BEYOND: no such sheet. MISSING. BEYOND: place");
        beyond("sheet -1", y -> y.book(-1, 0));
        beyond("sheet 4", y -> y.book(4, 0));
        refused("sheet 3", y -> y.book(3, 0), Check.MISSING);
        refused("sheet 3, place -1", y -> y.book(3, -1), Check.MISSING);
        beyond("place -1", y -> y.book(0, -1));
        beyond("place 6 of six", y -> y.book(0, 6));
        Check.refused("place 8 of eight", Check::fullCamp, y -> y.book(0, 8), Check.BEYOND);
        Check.refused("place 0 with nobody", SheetEdgesTest::twoSheets, y -> y.book(0, 0), Check.BEYOND);
    }

    private static void read() {
        Check.sentence("Promise 32: how many pairs of a KIND of it and BRIGHT (0 to 9) make it just so");
        OneLantern x = Check.dark(2, 0);
        x.sheet(0, 8, 2);
        Check.due("none falls: a GUIDE's 10", x.read(0, 0), 10);
        x.write(0, 1, 1);
        Check.due("one falls: the other 50", x.read(0, 0), 50);
        x.write(0, 0, 1);
        Check.due("not so now", x.read(0, 0), 0);
        x.sheet(0, 8, 1);
        Check.due("now alone: all 60", x.read(0, 0), 60);
        x.sheet(0, 64, 0);
        Check.due("no number: all 60", x.read(0, 0), 60);
        brightEdges();
        Check.sentence("Promise 32: numbers of a sheet are STUMBLED of one at a place 0, 1, 2, .. STEPS AHEAD");
        for (int step = 608; step <= 609; step++) {
            x = Check.longWarned(step);
            x.sheet(0, 16, 40);
            x.write(0, 39, 1);
            // the kinds that heed are warned up to then: all but the GUIDE, who never falls, and the SLEEPY one, who has fallen before
            Check.due("a fall 39 AHEAD of " + step, x.read(0, 1), step == 609 ? 40 : 0);
        }
        x = Check.row(0);
        x.set(0, 3, 300);
        x.sheet(0, 8, 1);
        x.sheet(1, 16, 1);
        x.write(0, 0, 300);
        x.write(1, 0, 300);
        Check.due("44 isn't 300", x.read(0, 0), 0);
        Check.due("300 is", x.read(1, 0), 60);
        Check.sentence("Promise 32: BEYOND: no such sheet. MISSING. BEYOND: place");
        beyond("sheet -1", y -> y.read(-1, 0));
        beyond("sheet 4", y -> y.read(4, 0));
        refused("sheet 3", y -> y.read(3, 0), Check.MISSING);
        refused("sheet 3, place -1", y -> y.read(3, -1), Check.MISSING);
        beyond("place -1", y -> y.read(0, -1));
        beyond("place 6 of six", y -> y.read(0, 6));
        Check.refused("place 8 of eight", Check::fullCamp, y -> y.read(0, 8), Check.BEYOND);
        Check.refused("place 0 with nobody", SheetEdgesTest::twoSheets, y -> y.read(0, 0), Check.BEYOND);
    }

    /** The last of these is 4 off, and 5 comes off BRIGHT first: with 9 alone it is in LIGHT, but a TALL one and a PORTER are too far off. */
    private static void brightEdges() {
        OneLantern x = Check.row(0, 4, 4, 1, 0);
        x.roots(1 << 27);
        x.sheet(0, 8, 2);
        Check.due("3 kinds with 9, a GUIDE with all 10", x.read(0, 4), 13);
        x = Check.row(0);
        x.roots(2);
        x.sheet(0, 8, 2);
        Check.due("with 0, too: all but the PORTER", x.read(0, 0), 50);
    }

    private static OneLantern changed(OneLantern x) {
        x.walker(5);
        x.swap(0, 1);
        x.turn(1, 4);
        x.roots(77);
        x.lantern(-1);
        x.bright(0);
        x.set(0, 2, 1);
        x.set(0, 3, 5);
        x.set(0, 4, 6);
        x.steps(9);
        return x;
    }

    private static void image() {
        Check.sentence("Promise 33: All that section 1 tells (THE TAPE not) is kept: 1");
        OneLantern x = Check.row(0, 1, 2);
        Check.due("image", x.image(), 1);
        Check.feed(x, "tall");
        changed(x);
        x.undo();
        OneLantern twin = Check.row(0, 1, 2);
        twin.image();
        Check.feed(twin, "tall");
        Check.same("image and undo", x, twin);
        x = Check.camp();
        Check.due("of six", x.image(), 1);
        Check.due("WALKERS", changed(x).undo(), 6);
        twin = Check.camp();
        twin.image();
        Check.same("image and undo in a camp", x, twin);
        x = Check.camp();
        x.sheet(0, 8, 2);
        x.write(0, 1, 9);
        x.sheet(1, 0, 0);
        Check.due("sheets are no part of section 1", x.undo(), 3);
        Check.due("a sheet stays", x.write(0, 1, 0), 9);
        Check.due("a MISSING one stays", x.lays(1), Check.MISSING);
        x = new OneLantern();
        Check.due("of nobody", x.image(), 1);
        x.walker(0);
        Check.due("nobody", x.undo(), 0);
        x = Check.fullCamp();
        Check.due("of eight", x.image(), 1);
        x.swap(6, 7);
        Check.due("eight", x.undo(), 8);
        Check.due("the last", x.of(7, 0), 4);
    }

    private static void undo() {
        Check.sentence("Promise 34: It becomes what was kept latest (which stays): how many WALKERS");
        OneLantern x = Check.row(0);
        x.image();
        x.walker(1);
        x.image();
        x.walker(2);
        Check.due("the latest", x.undo(), 2);
        Check.due("again", x.undo(), 2);
        changed(x);
        Check.due("it stays", x.undo(), 2);
        Check.due("the last", x.of(1, 0), 1);
        x.set(1, 4, 0);
        Check.due("what comes then isn't kept", x.undo(), 2);
        Check.due("NERVE", x.of(1, 4), 50);
        Check.sentence("Promise 34: NONE: nothing is kept");
        Check.refused("in a new one", OneLantern::new, y -> y.undo(), Check.NONE);
        Check.refused("behind a tear", SheetEdgesTest::tornCamp, y -> y.undo(), Check.NONE);
    }

    private static OneLantern tornCamp() {
        OneLantern x = Check.camp();
        x.tear();
        return x;
    }

    private static void tear() {
        Check.sentence("Promise 35: Nothing is kept: 1 if something was, else 0");
        Check.keeps("nothing was", OneLantern::new, y -> y.tear(), 0);
        Check.keeps("nothing is since", SheetEdgesTest::tornCamp, y -> y.tear(), 0);
        OneLantern x = new OneLantern();
        x.image();
        Check.due("an image of nobody was", x.tear(), 1);
        Check.due("nothing is", x.tear(), 0);
        Check.due("nothing to undo", x.undo(), Check.NONE);
        x.image();
        x.image();
        Check.due("two were", x.tear(), 1);
        Check.due("both are gone", x.undo(), Check.NONE);
        x.walker(0);
        x.image();
        x.walker(0);
        Check.due("a new one is kept", x.undo(), 1);
    }

    private static void count() {
        Check.sentence("Promise 36: 0 WALKERS, 1 bytes of THE TAPE, 2 ROOTS, 3 NERVE of all together. BEYOND: another what");
        int[] none = {0, 0, 0, 0};
        int[] most = {8, 120, 30, 792};
        OneLantern empty = Check.dark(0);
        OneLantern full = Check.row(0, 0, 0, 0, 0, 0, 0, 0);
        full.roots(Check.ALL_ROOTS);
        Check.feed(full, Check.blanks(120));
        for (int place = 0; place < 8; place++) {
            full.set(place, 4, 99);
        }
        for (int what = 0; what <= 3; what++) {
            Check.due("none of " + what, empty.count(what), none[what]);
            Check.due("the most of " + what, full.count(what), most[what]);
        }
        Check.due("at first", new OneLantern().count(2), 4);
        Check.keeps("count(0)", Check::camp, y -> y.count(0), 6);
        Check.keeps("count(1)", Check::camp, y -> y.count(1), 24);
        beyond("count(-1)", y -> y.count(-1));
        beyond("count(4)", y -> y.count(4));
        beyond("the lowest", y -> y.count(Check.LOWEST));
        beyond("the highest", y -> y.count(Check.HIGHEST));
    }

    private static void status() {
        Check.sentence("Promise 37: How many acts answered a finding ever: which -1: all, 0 to 6: BEYOND to SIZE");
        OneLantern x = Check.row(0, 0, 0, 0, 0, 0, 0, 0);
        for (int which = -1; which <= 6; which++) {
            Check.due("none yet of " + which, x.status(which), 0);
        }
        x.now(8);
        x.walker(0);
        x.walker(0);
        x.as(0, 1);
        x.as(0, 1);
        x.as(0, 1);
        for (int i = 0; i < 4; i++) {
            x.undo();
        }
        for (int i = 0; i < 6; i++) {
            x.lays(0);
        }
        for (int i = 0; i < 7; i++) {
            x.sheet(0, 8, -1);
        }
        int[] told = {1, 2, 3, 4, 0, 6, 7};
        for (int which = 0; which <= 6; which++) {
            Check.due("status(" + which + ")", x.status(which), told[which]);
        }
        Check.due("all", x.status(-1), 23);
        x.write(0, 0, 0);
        Check.due("in longs, too", x.status(5), 7);
        x.feed('x', 1);
        Check.due("a FAULT", x.night(), -1);
        Check.due("is no finding", x.status(-1), 24);
        Check.sentence("Promise 37: (undo() takes none back)");
        x.image();
        x.now(8);
        x.undo();
        Check.due("all", x.status(-1), 25);
        Check.due("BEYOND", x.status(0), 2);
        Check.sentence("Promise 37: BEYOND (counted from then on): another one");
        Check.due("which -2", x.status(-2), Check.BEYOND);
        Check.due("counted", x.status(0), 3);
        Check.due("which 7", x.status(7), Check.BEYOND);
        Check.due("counted", x.status(0), 4);
        Check.due("all", x.status(-1), 27);
        beyond("which -2", y -> y.status(-2));
        beyond("which 7", y -> y.status(7));
        beyond("the lowest", y -> y.status(Check.LOWEST));
        beyond("the highest", y -> y.status(Check.HIGHEST));
        Check.keeps("status(6)", Check::camp, y -> y.status(6), 0);
    }
}
