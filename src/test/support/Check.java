/** What the tests of the boundary cases share: answers held against what is due, and calls that must change nothing. */
final class Check {
    static final int BEYOND = -1000000001;
    static final int FULL = -1000000002;
    static final int KIND = -1000000003;
    static final int NONE = -1000000004;
    static final int STATE = -1000000005;
    static final int MISSING = -1000000006;
    static final int SIZE = -1000000007;
    static final int FIRST_ROOTS = 1 << 3 | 1 << 10 | 1 << 17 | 1 << 24;
    static final int ALL_ROOTS = 1073741823;
    static final int HIGHEST = Integer.MAX_VALUE;
    static final int LOWEST = Integer.MIN_VALUE;

    interface Scene {
        OneLantern make();
    }

    interface Call {
        long on(OneLantern x);
    }

    private static int wrong = 0;
    private static int sentences = 0;
    private static String sentence = "";

    private Check() {
    }

    /** The sentence of the document that the next checks hold to. */
    static void sentence(String words) {
        sentence = words;
        sentences++;
    }

    static void due(String what, long got, long want) {
        if (got != want) {
            fail(what + " answered " + got + ", due is " + want);
        }
    }

    private static void fail(String what) {
        wrong++;
        System.out.println("\"" + sentence + "\": " + what);
    }

    static void end() {
        System.out.println(wrong == 0 ? sentences + " sentences hold" : wrong + " answers are not as due");
        if (wrong != 0) {
            System.exit(1);
        }
    }

    /** The call answers the finding, counts it once, and changes nothing else that can be seen. */
    static void refused(String what, Scene scene, Call call, int finding) {
        OneLantern asked = scene.make();
        OneLantern twin = scene.make();
        due(what, call.on(asked), finding);
        int own = BEYOND - finding;
        for (int which = -1; which <= 6; which++) {
            int more = which == -1 || which == own ? 1 : 0;
            due("status(" + which + ") behind " + what, asked.status(which), twin.status(which) + more);
        }
        same(what, asked, twin);
    }

    /** The call answers so, and changes nothing at all. */
    static void keeps(String what, Scene scene, Call call, long want) {
        OneLantern asked = scene.make();
        OneLantern twin = scene.make();
        due(what, call.on(asked), want);
        for (int which = -1; which <= 6; which++) {
            due("status(" + which + ") behind " + what, asked.status(which), twin.status(which));
        }
        same(what, asked, twin);
    }

    static void same(String what, OneLantern asked, OneLantern twin) {
        String got = all(asked);
        String want = all(twin);
        if (!got.equals(want)) {
            fail(what + " changed\n  " + want + " to\n  " + got);
        }
    }

    /** All that can be seen of an object, which is used up by this: some 400 of its 512 calls. */
    private static String all(OneLantern x) {
        StringBuilder s = new StringBuilder();
        night(s, x);
        s.append(" tape ").append(x.night());
        night(s, x);
        s.append(" kept ").append(x.undo());
        night(s, x);
        for (int sheet = 0; sheet < 4; sheet++) {
            s.append(" sheet");
            long number = 0;
            for (int i = 0; i <= 40 && number > BEYOND; i++) {
                number = x.write(sheet, i, 0);
                s.append(' ').append(number);
            }
            x.write(sheet, 0, 0x7654321076543210L);
            s.append(" width ").append(x.write(sheet, 0, 0));
        }
        return s.toString();
    }

    private static void night(StringBuilder s, OneLantern x) {
        for (int what = 0; what <= 7; what++) {
            s.append(' ').append(x.now(what));
        }
        for (int what = 0; what <= 3; what++) {
            s.append(' ').append(x.count(what));
        }
        int walkers = x.count(0);
        for (int place = 0; place < walkers; place++) {
            s.append(" /");
            for (int what = 0; what <= 7; what++) {
                s.append(' ').append(x.of(place, what));
            }
        }
    }

    static OneLantern row(int... kinds) {
        OneLantern x = new OneLantern();
        for (int kind : kinds) {
            x.walker(kind);
        }
        return x;
    }

    /** A row that nobody lights, on a path with these roots. */
    static OneLantern dark(int roots, int... kinds) {
        OneLantern x = row(kinds);
        x.lantern(-1);
        x.roots(roots);
        return x;
    }

    static void stepOn(OneLantern x, int n) {
        for (int left = n; left > 0; left -= 200) {
            x.steps(Math.min(left, 200));
        }
    }

    /** Feeds four bytes a call, as long as there are so many. */
    static int feed(OneLantern x, String text) {
        int has = 0;
        int i = 0;
        while (i < text.length()) {
            int n = Math.min(4, text.length() - i);
            int bytes = 0;
            for (int k = 0; k < n; k++) {
                bytes = bytes << 8 | text.charAt(i + k) & 255;
            }
            has = x.feed(bytes, n);
            i += n;
        }
        return has;
    }

    static int night(OneLantern x, String text) {
        feed(x, text);
        return x.night();
    }

    static String blanks(int n) {
        return " ".repeat(n);
    }

    /** Six in a row, one of each kind, unlike the image that is kept; a text on the tape; sheets 0 to 2, and 3 is MISSING. */
    static OneLantern camp() {
        OneLantern x = row(0, 1, 2);
        x.bright(6);
        x.roots(1 << 2 | 1 << 20);
        x.steps(5);
        x.set(1, 3, 77);
        x.image();
        x.walker(3);
        x.walker(4);
        x.walker(5);
        x.roots(1 | 1 << 11 | 1 << 12 | 1 << 29);
        x.lantern(2);
        x.bright(4);
        x.set(3, 3, 9998);
        x.set(4, 4, 19);
        x.steps(39);
        x.set(0, 2, 1);
        x.now(8);
        x.as(0, 1);
        x.sheet(0, 8, 3);
        x.sheet(1, 16, 40);
        x.sheet(2, 64, 3);
        for (int i = 0; i < 3; i++) {
            x.write(0, i, 40 + i);
            x.write(1, i, 400 + i);
            x.write(2, i, 4000000000L + i);
        }
        feed(x, "root 5;bright 8;swap 0 1");
        return x;
    }

    static OneLantern fullCamp() {
        OneLantern x = camp();
        x.walker(0);
        x.walker(4);
        return x;
    }

    static OneLantern fullOfGuides() {
        return row(3, 3, 3, 3, 3, 3, 3, 3);
    }

    static OneLantern emptyTapeCamp() {
        OneLantern x = camp();
        x.wipe();
        return x;
    }

    /** A porter in front warns the child behind it for long; its nerve is 18 in STEP 647, so the child falls in 648, and the third hears it. */
    static OneLantern longWarned(int step) {
        OneLantern x = dark(1 << 3 | 1 << 10 | 1 << 17, 4, 2, 0);
        x.set(0, 4, 99);
        stepOn(x, step);
        return x;
    }
}
