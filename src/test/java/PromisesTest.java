/** For each promise of the document: ordinary inputs, its edges and wrong inputs, with answers found by hand. */
public final class PromisesTest {
    private static final int BEYOND = -1000000001;
    private static final int FULL = -1000000002;
    private static final int KIND = -1000000003;
    private static final int NONE = -1000000004;
    private static final int STATE = -1000000005;
    private static final int MISSING = -1000000006;
    private static final int SIZE = -1000000007;
    private static final int FIRST_ROOTS = 8 + 1024 + 131072 + 16777216;
    private static final int ALL_ROOTS = 1073741823;
    private static final int FAR = Integer.MAX_VALUE;
    private static final int LOW = Integer.MIN_VALUE;

    private static int wrong = 0;
    private static int promise = 0;

    private static void due(String what, long got, long want) {
        if (got != want) {
            wrong++;
            System.out.println("promise " + promise + ": " + what + " answered " + got + ", due is " + want);
        }
    }

    /** A row of the given kinds, with the default path. */
    private static OneLantern row(int... kinds) {
        OneLantern x = new OneLantern();
        for (int kind : kinds) {
            x.walker(kind);
        }
        return x;
    }

    private static int feedText(OneLantern x, String text) {
        int has = x.count(1);
        for (int i = 0; i < text.length(); i++) {
            has = x.feed(text.charAt(i), 1);
        }
        return has;
    }

    private static int night(OneLantern x, String text) {
        feedText(x, text);
        return x.night();
    }

    private static void fault(String text, int place) {
        OneLantern x = row(0, 1);
        due("night of \"" + text + "\"", night(x, text), -1 - place);
        due("tape after the fault", x.count(1), 0);
        due("walkers after the fault", x.count(0), 2);
        due("roots after the fault", x.now(1), FIRST_ROOTS);
        due("lantern after the fault", x.now(2), 0);
        due("bright after the fault", x.now(3), 3);
        due("first kind after the fault", x.of(0, 0), 0);
        due("no finding", x.status(-1), 0);
    }

    public static void main(String[] args) {
        path();
        walkers();
        kindsSeeing();
        kindsSaying();
        stepping();
        lookingAhead();
        best();
        text();
        textFaults();
        sheets();
        books();
        images();
        statuses();
        lateSteps();
        System.out.println(wrong == 0 ? "all promises hold" : wrong + " answers are not as due");
        if (wrong != 0) {
            System.exit(1);
        }
    }

    private static void path() {
        promise = 1;
        OneLantern x = new OneLantern();
        for (int what = 0; what <= 7; what++) {
            int[] want = {0, FIRST_ROOTS, 0, 3, 0, 0, 0, 0};
            due("now(" + what + ")", x.now(what), want[what]);
        }
        due("walkers", x.count(0), 0);
        due("bytes", x.count(1), 0);
        due("roots", x.count(2), 4);
        due("nerve", x.count(3), 0);
        due("findings", x.status(-1), 0);
        due("tear", x.tear(), 0);
        due("undo", x.undo(), NONE);
        for (int s = 0; s < 4; s++) {
            due("sheet is missing", x.lays(s), MISSING);
        }

        promise = 2;
        x = new OneLantern();
        due("roots", x.roots(5), FIRST_ROOTS);
        due("roots", x.roots(ALL_ROOTS), 5);
        due("roots below", x.roots(-1), BEYOND);
        due("roots above", x.roots(ALL_ROOTS + 1), BEYOND);
        due("roots", x.roots(0), ALL_ROOTS);
        due("roots", x.now(1), 0);

        promise = 3;
        x = new OneLantern();
        due("lantern to nobody there", x.lantern(0), BEYOND);
        due("lantern to none", x.lantern(-1), 0);
        x.walker(0);
        x.walker(0);
        due("lantern", x.lantern(1), -1);
        due("lantern", x.lantern(2), BEYOND);
        due("lantern", x.lantern(-2), BEYOND);
        due("lantern", x.lantern(FAR), BEYOND);
        due("lantern", x.now(2), 1);

        promise = 4;
        due("bright", x.bright(9), 3);
        due("bright", x.bright(0), 9);
        due("bright", x.bright(-1), BEYOND);
        due("bright", x.bright(10), BEYOND);
        due("bright", x.now(3), 0);

        promise = 5;
        x = row(0, 1, 0, 0, 0);
        due("light past a tall one", x.now(4), 7);
        x.bright(4);
        due("light past a tall one", x.now(4), 15);
        x.turn(1, 4);
        due("light past a porter", x.now(4), 7);
        x.lantern(1);
        due("its own place does not shade", x.now(4), 31);
        x.lantern(4);
        x.bright(3);
        due("before nothing shades", x.now(4), 30);
        x.lantern(-1);
        due("no lantern", x.now(4), 0);
        x.roots(1 | 1 << 29 | 1 << 27);
        due("at roots", x.now(5), 11);
        x.set(2, 2, 1);
        x.set(4, 2, 1);
        due("heard", x.now(6), 20);
        x.set(0, 2, 1);
        due("heard", x.now(6), 21);
        x.set(0, 3, 9999);
        x.set(4, 3, 2);
        due("stumbled", x.now(7), 10001);
        due("now", x.now(-1), BEYOND);
        due("now", x.now(8), BEYOND);
    }

    private static void walkers() {
        promise = 6;
        OneLantern x = new OneLantern();
        due("walker", x.walker(-1), BEYOND);
        due("walker", x.walker(6), BEYOND);
        for (int i = 0; i < 8; i++) {
            due("walker", x.walker(i % 6), i);
        }
        due("walker", x.walker(0), FULL);
        due("beyond comes first", x.walker(6), BEYOND);
        due("walkers", x.count(0), 8);

        promise = 7;
        int[] shades = {0, 1, 0, 0, 2, 0};
        int[] heeds = {1, 1, 1, 1, 1, 0};
        for (int i = 0; i < 6; i++) {
            due("kind", x.of(i, 0), i);
            due("pace", x.of(i, 1), (30 - i) % 30);
            due("heard", x.of(i, 2), 0);
            due("stumbled", x.of(i, 3), 0);
            due("nerve", x.of(i, 4), 50);
            due("shades of " + i, x.of(i, 5), shades[i]);
            due("heeds of " + i, x.of(i, 7), heeds[i]);
            x.set(i, 4, 30);
            due("heeds with 30 of " + i, x.of(i, 7), heeds[i]);
            x.set(i, 4, 29);
            due("heeds with 29 of " + i, x.of(i, 7), i == 2 ? 1 : 0);
        }
        due("of", x.of(-1, 0), BEYOND);
        due("of", x.of(8, 0), BEYOND);
        due("of", x.of(0, -1), BEYOND);
        due("of", x.of(0, 8), BEYOND);
        due("of nobody", new OneLantern().of(0, 0), BEYOND);

        promise = 8;
        x = row(0, 0);
        due("set", x.set(1, 2, 1), 0);
        due("set", x.set(1, 2, 0), 1);
        due("set", x.set(1, 2, 2), BEYOND);
        due("set", x.set(1, 2, -1), BEYOND);
        due("set", x.set(1, 3, 9999), 0);
        due("set", x.set(1, 3, 10000), BEYOND);
        due("set", x.set(1, 3, -1), BEYOND);
        due("set", x.set(1, 4, 99), 50);
        due("set", x.set(1, 4, 100), BEYOND);
        due("set", x.set(1, 4, -1), BEYOND);
        due("set", x.set(1, 4, 0), 99);
        due("set", x.set(1, 1, 0), BEYOND);
        due("set", x.set(1, 5, 0), BEYOND);
        due("set", x.set(2, 4, 0), BEYOND);
        due("set", x.set(-1, 4, 0), BEYOND);
        due("stumbled", x.of(1, 3), 9999);
        due("the other one", x.of(0, 4), 50);

        promise = 9;
        x = row(1, 0, 5);
        x.set(0, 2, 1);
        x.set(0, 3, 7);
        x.set(0, 4, 60);
        due("swap", x.swap(0, 2), 1);
        due("kind", x.of(2, 0), 1);
        due("heard", x.of(2, 2), 1);
        due("stumbled", x.of(2, 3), 7);
        due("nerve", x.of(2, 4), 60);
        due("kind", x.of(0, 0), 5);
        due("heard", x.of(0, 2), 0);
        due("lantern", x.now(2), 0);
        due("swap", x.swap(2, 0), 1);
        due("kind", x.of(0, 0), 1);
        due("swap", x.swap(1, 1), BEYOND);
        due("swap", x.swap(0, 3), BEYOND);
        due("swap", x.swap(3, 0), BEYOND);
        due("swap", x.swap(-1, 0), BEYOND);

        promise = 10;
        x = row(1);
        x.set(0, 3, 7);
        due("turn", x.turn(0, 5), 1);
        due("turn", x.turn(0, 5), 5);
        due("turn", x.turn(0, 6), BEYOND);
        due("turn", x.turn(0, -1), BEYOND);
        due("turn", x.turn(1, 0), BEYOND);
        due("kind", x.of(0, 0), 5);
        due("stumbled", x.of(0, 3), 7);

        promise = 11;
        x = row(0, 1, 2, 3, 4, 5);
        int[] under = {1, 3, 5, 9, 19, 37};
        for (int place = 0; place < 6; place++) {
            x.set(place, 4, place);
            for (int kind = 0; kind < 6; kind++) {
                due("as(" + place + ", " + kind + ")", x.as(place, kind), (under[place] >> kind & 1) == 1 ? place : KIND);
            }
        }
        due("as", x.as(6, 0), BEYOND);
        due("as", x.as(-1, 0), BEYOND);
        due("as", x.as(0, 6), BEYOND);
        due("as", x.as(0, -1), BEYOND);
    }

    private static void kindsSeeing() {
        promise = 7;
        OneLantern x = row(0, 0, 0, 0, 0, 0, 0, 0);
        x.bright(9);
        x.lantern(3);
        for (int place = 0; place < 8; place++) {
            boolean near = Math.abs(place - 3) <= 2;
            for (int kind = 0; kind < 6; kind++) {
                x.turn(place, kind);
                boolean sees = kind == 1 ? near : kind == 4 ? near && place != 3 : true;
                due("kind " + kind + " sees at " + place, x.of(place, 6), sees ? 1 : 0);
            }
            x.turn(place, 0);
        }
        x.lantern(-1);
        for (int kind = 0; kind < 6; kind++) {
            x.turn(0, kind);
            due("kind " + kind + " sees in the dark", x.of(0, 6), kind == 3 ? 1 : 0);
        }
        x.lantern(0);
        x.turn(0, 5);
        int[] sees = {1, 1, 0, 1, 1, 0};
        for (int step = 0; step < 6; step++) {
            due("sleepy one sees in step " + step, x.of(0, 6), sees[step]);
            x.steps(1);
        }
    }

    /** Whether a kind at place 0 says the word on, as the one behind it tells after a step. */
    private static int saysOf(int kind, int nerve, int heard, int lantern, int roots) {
        OneLantern x = row(kind, 0);
        x.set(0, 4, nerve);
        x.set(0, 2, heard);
        x.lantern(lantern);
        x.roots(roots);
        x.steps(1);
        return x.of(1, 2);
    }

    private static void kindsSaying() {
        promise = 12;
        int[] stumbling = {1, 1, 1, 1, 1, 0};
        int[] seeing = {1, 1, 0, 1, 0, 0};
        int[] hearing = {0, 1, 0, 0, 1, 0};
        for (int kind = 0; kind < 6; kind++) {
            due("kind " + kind + " says it stumbling", saysOf(kind, 50, 0, -1, 2), stumbling[kind]);
            due("kind " + kind + " says it having heard", saysOf(kind, 50, 1, 0, 0), hearing[kind]);
            due("kind " + kind + " says nothing", saysOf(kind, 50, 0, 0, 0), 0);
            if (kind != 4) {
                due("kind " + kind + " says it seeing", saysOf(kind, 50, 0, 0, 2), seeing[kind]);
            }
        }
        due("a porter says it seeing", saysOf(4, 50, 0, 1, 2), 1);
        due("a porter of nerve 20 then", saysOf(4, 19, 1, 0, 0), 1);
        due("a porter of nerve 19 then", saysOf(4, 18, 1, 0, 0), 0);
        due("a porter that falls to 20", saysOf(4, 30, 0, -1, 2), 1);
        due("a porter that falls to 19", saysOf(4, 29, 0, -1, 2), 0);
    }

    private static void stepping() {
        promise = 12;
        OneLantern x = row(0);
        x.lantern(-1);
        x.roots(2);
        due("steps", x.steps(1), 1);
        due("nerve", x.of(0, 4), 40);
        due("steps", x.steps(1), 1);
        due("nerve", x.of(0, 4), 41);
        x.set(0, 4, 9);
        x.roots(ALL_ROOTS);
        due("steps", x.steps(1), 2);
        due("nerve at least", x.of(0, 4), 0);
        x.set(0, 4, 98);
        x.roots(0);
        x.steps(1);
        due("nerve", x.of(0, 4), 99);
        x.steps(1);
        due("nerve at most", x.of(0, 4), 99);
        x.set(0, 3, 9999);
        x.roots(ALL_ROOTS);
        due("stumbled at most", x.steps(1), 9999);
        due("steps", x.steps(0), BEYOND);
        due("steps", x.steps(201), BEYOND);
        due("steps", x.steps(LOW), BEYOND);
        due("step", x.now(0), 6);
        x.steps(200);
        due("step", x.now(0), 206);

        int[] warned = {0, 0, 0, 0, 0, 1};
        for (int kind = 0; kind < 6; kind++) {
            x = row(kind);
            x.lantern(-1);
            x.roots(2);
            x.set(0, 2, 1);
            x.set(0, 4, 30);
            due("kind " + kind + " that heard", x.steps(1), warned[kind]);
            due("nobody before it", x.of(0, 2), 0);
            x = row(kind);
            x.lantern(-1);
            x.roots(2);
            x.set(0, 2, 1);
            x.set(0, 4, 29);
            due("kind " + kind + " that heard with 29", x.steps(1), kind == 2 || kind == 3 ? 0 : 1);
        }

        x = row(0, 1, 0, 0);
        x.lantern(-1);
        x.roots(2);
        x.set(1, 2, 1);
        due("one stumbles", x.steps(1), 1);
        due("both say it", x.now(6), 6);
        due("the word keeps the tall one", x.steps(1), 1);
        due("the tall one says it on", x.now(6), 4);
        due("the word keeps the third", x.steps(1), 1);
        due("a walker that sees nothing says nothing", x.now(6), 0);
        due("the fourth stumbles", x.steps(1), 2);

        x = row();
        due("steps of nobody", x.steps(7), 0);
        due("step", x.now(0), 7);
        x.walker(0);
        due("pace", x.of(0, 1), 7);
        x.steps(23);
        due("pace", x.of(0, 1), 0);
    }

    private static void lookingAhead() {
        promise = 13;
        OneLantern x = row(0, 0);
        x.lantern(-1);
        due("on", x.on(0, 0, 0), 0);
        due("on", x.on(0, 0, 2), 50);
        due("on", x.on(0, 2, 1), 0);
        due("on", x.on(0, 3, 1), 1);
        due("on", x.on(0, 3, 2), 42);
        due("on", x.on(1, 3, 0), 1);
        due("on", x.on(1, 4, 0), 0);
        due("on", x.on(1, 4, 1), 0);
        due("on", x.on(0, 300, 1), 40);
        due("on", x.on(0, 301, 1), BEYOND);
        due("on", x.on(0, -1, 1), BEYOND);
        due("on", x.on(0, 0, 3), BEYOND);
        due("on", x.on(0, 0, -1), BEYOND);
        due("on", x.on(2, 0, 0), BEYOND);
        due("nothing changes", x.now(0), 0);
        due("nothing changes", x.of(0, 3), 0);
        due("nothing changes", x.of(0, 4), 50);

        promise = 14;
        due("falls", x.falls(0), 0);
        due("falls", x.falls(3), 1);
        due("falls", x.falls(300), 40);
        due("falls", x.falls(301), BEYOND);
        due("falls", x.falls(-1), BEYOND);
        due("falls of nobody", new OneLantern().falls(9), 0);
        due("nothing changes", x.now(7), 0);

        promise = 15;
        due("trips", x.trips(0), 3);
        due("trips", x.trips(1), NONE);
        due("trips", x.trips(2), BEYOND);
        due("trips", x.trips(-1), BEYOND);
        x.set(0, 3, 9999);
        due("trips with the most", x.trips(0), 3);
        x.steps(3);
        due("trips next", x.trips(0), 7);

        promise = 16;
        x = row(0, 0, 0);
        due("hears", x.hears(1), 3);
        due("hears", x.hears(2), 4);
        due("hears", x.hears(0), NONE);
        x.set(0, 2, 1);
        due("hears", x.hears(0), 0);
        due("hears", x.hears(3), BEYOND);
        due("hears", x.hears(-1), BEYOND);
        farAhead();
    }

    /** The porter's nerve after its third root is 81 less 3 a round: 18 in step 647, so it is silent, and the child falls in 648. */
    private static void farAhead() {
        OneLantern x = row(4, 2, 0);
        x.lantern(-1);
        x.roots(1 << 3 | 1 << 10 | 1 << 17);
        x.set(0, 4, 99);
        x.steps(200);
        x.steps(147);
        promise = 15;
        due("trips in 301", x.trips(1), NONE);
        promise = 16;
        due("hears in 301", x.hears(2), NONE);
        x.steps(1);
        promise = 15;
        due("trips in 300", x.trips(1), 300);
        promise = 16;
        due("hears in 300", x.hears(2), 300);
    }

    private static void best() {
        promise = 17;
        OneLantern x = row(5, 0, 0);
        x.bright(0);
        x.roots(2);
        due("carry", x.carry(1), 0);
        x.roots(1);
        due("carry", x.carry(1), 1);
        x.roots(0);
        due("of several the least", x.carry(100), 0);
        due("carry", x.carry(0), BEYOND);
        due("carry", x.carry(101), BEYOND);
        due("carry", new OneLantern().carry(1), NONE);
        due("carry", new OneLantern().carry(0), BEYOND);
        due("nothing changes", x.now(2), 0);

        promise = 18;
        x = row(0, 0, 3, 3);
        x.lantern(-1);
        x.roots(2);
        due("order", x.order(1), 2);
        due("order", x.order(2), 2);
        x.roots(0);
        due("none is less", x.order(100), NONE);
        due("order", x.order(0), BEYOND);
        due("order", x.order(101), BEYOND);
        due("order of nobody", new OneLantern().order(1), NONE);
        due("order of one", row(0).order(100), NONE);
        due("nothing changes", x.of(0, 0), 0);
        x = row(0, 0, 3);
        x.lantern(-1);
        x.roots(1);
        due("order", x.order(1), 12);

        promise = 19;
        x = row(0);
        due("kind in the light", x.kind(0, 100), 0);
        x.lantern(-1);
        due("kind in the dark", x.kind(0, 100), 3);
        due("before any root", x.kind(0, 2), 0);
        due("before any root", x.kind(0, 1), 0);
        due("kind", x.kind(0, 0), BEYOND);
        due("kind", x.kind(0, 101), BEYOND);
        due("kind", x.kind(1, 1), BEYOND);
        due("nothing changes", x.of(0, 0), 0);

        promise = 20;
        x = row(0, 1, 2);
        x.roots(1 << 29);
        due("least", x.least(1, 0), 3);
        due("least", x.least(1, 1), 0);
        due("nothing changes", x.now(3), 3);
        x.set(0, 3, 5);
        due("what they had counts", x.least(1, 4), NONE);
        due("least", x.least(1, 5), 3);
        due("least", x.least(100, 99999), 0);
        due("least", x.least(1, 100000), BEYOND);
        due("least", x.least(1, -1), BEYOND);
        due("least", x.least(0, 1), BEYOND);
        due("least", x.least(101, 1), BEYOND);
        due("least of nobody", new OneLantern().least(100, 0), 0);
        x = row(0, 4, 4, 1, 0);
        x.roots(1 << 27);
        due("the brightest", x.least(1, 0), 9);
        x = row(0, 4, 4, 4, 0);
        x.roots(1 << 27);
        due("none is bright enough", x.least(1, 0), NONE);

        promise = 21;
        x = row(0);
        x.lantern(-1);
        due("clear", x.clear(60), 3);
        x.roots(1 << 5 | 1 << 20 | 1 << 29);
        due("of several the least", x.clear(1), 5);
        due("of several the least", x.clear(30), 5);
        x.steps(19);
        due("clear", x.clear(1), 20);
        due("clear", x.clear(0), BEYOND);
        due("clear", x.clear(61), BEYOND);
        due("nothing changes", x.count(2), 3);
        x.roots(1);
        due("the first pace", x.clear(1), 0);
        x.roots(1 << 29);
        due("the last pace", x.clear(1), 29);
        x.roots(0);
        due("no root", x.clear(1), NONE);
        due("clear of nobody", new OneLantern().clear(60), 3);

        promise = 22;
        x = row(0, 0);
        x.lantern(-1);
        x.roots(2);
        due("nerve of the first", x.nerve(0, 1), NONE);
        due("nerve of the second", x.nerve(1, 1), 0);
        due("nerve of the second", x.nerve(1, 2), 29);
        x.set(0, 3, 9999);
        due("no more than the most", x.nerve(0, 100), 0);
        due("nerve", x.nerve(0, 0), BEYOND);
        due("nerve", x.nerve(0, 101), BEYOND);
        due("nerve", x.nerve(2, 1), BEYOND);
        due("nothing changes", x.of(1, 4), 50);

        promise = 23;
        x = row(0, 0, 0);
        x.lantern(-1);
        x.roots(1 << 0);
        due("worst", x.worst(0), 0);
        due("worst", x.worst(1), 1);
        due("worst", x.worst(2), 1);
        x.set(2, 3, 1);
        due("of several the least", x.worst(1), 1);
        x.set(2, 3, 2);
        due("worst", x.worst(1), 2);
        // the first stumbles 10 times by then, the third 9 times, as the second is warned and says nothing
        due("worst", x.worst(300), 2);
        x.set(2, 3, 1);
        due("of several the least", x.worst(300), 0);
        due("worst", x.worst(301), BEYOND);
        due("worst", x.worst(-1), BEYOND);
        due("worst of nobody", new OneLantern().worst(0), NONE);
        due("beyond comes first", new OneLantern().worst(301), BEYOND);
    }

    private static void text() {
        promise = 24;
        OneLantern x = new OneLantern();
        due("feed", x.feed(0x77616c6b, 4), 4);
        due("feed", x.feed(0xff6572, 2), 6);
        due("feed", x.feed(0, 0), BEYOND);
        due("feed", x.feed(0, 5), BEYOND);
        due("the highest first", x.night(), 1);
        due("kind", x.of(0, 0), 0);
        for (int i = 1; i <= 29; i++) {
            due("feed", x.feed(0x20202020, 4), 4 * i);
        }
        due("feed", x.feed(0x202020, 3), 119);
        due("feed", x.feed(0x2020, 2), FULL);
        due("feed", x.feed(0, 5), BEYOND);
        due("feed", x.feed(0x20, 1), 120);
        due("feed", x.feed(0x20, 1), FULL);
        due("bytes", x.count(1), 120);

        promise = 25;
        due("wipe", x.wipe(), 120);
        due("wipe", x.wipe(), 0);
        due("bytes", x.count(1), 0);
        due("night without bytes", x.night(), -1);

        promise = 26;
        x = new OneLantern();
        due("night", night(x, "walker;tall;child;guide;porter;sleepy"), 6);
        for (int i = 0; i < 6; i++) {
            due("kind", x.of(i, 0), i);
            due("nerve", x.of(i, 4), 50);
        }
        due("bytes", x.count(1), 0);
        due("night", night(x, "  tall nerve 0 ; child   nerve99;lantern 7;bright0;swap 7 0 "), 5);
        due("kind", x.of(0, 0), 2);
        due("nerve", x.of(0, 4), 99);
        due("kind", x.of(7, 0), 0);
        due("nerve", x.of(6, 4), 0);
        due("lantern", x.now(2), 7);
        due("bright", x.now(3), 0);
        due("night", night(x, "clear 3;clear 4;root 3;root 29;root 0;clear 10"), 6);
        due("roots", x.now(1), 1 | 8 | 1 << 17 | 1 << 24 | 1 << 29);
        due("zeros ahead", night(x, "bright 000000000000007"), 1);
        due("bright", x.now(3), 7);
        x.set(0, 3, 4);
        x.set(0, 2, 1);
        due("swap takes all along", night(x, "swap 0 1"), 1);
        due("stumbled", x.of(1, 3), 4);
        due("heard", x.of(1, 2), 1);
        due("walkers", x.count(0), 8);
        x = new OneLantern();
        due("places there by then", night(x, "guide;lantern 0;tall;swap 0 1;lantern 1"), 5);
        due("kind", x.of(0, 0), 1);
    }

    private static void textFaults() {
        promise = 26;
        fault("", 0);
        fault("   ", 3);
        fault(";", 0);
        fault("walker;", 7);
        fault("walker ; ", 9);
        fault("walker;;tall", 7);
        fault("walker tall", 7);
        fault("walkers", 0);
        fault("Walker", 0);
        fault("xalker", 0);
        fault("walkerz", 0);
        fault("walkeR", 0);
        fault("walker!", 6);
        fault("walker\t", 6);
        fault("walker nerve", 12);
        fault("walker nerve 100", 13);
        fault("walker nerve ;", 13);
        fault("walker nerve 5 nerve 6", 15);
        fault("walker 5", 7);
        fault("walker;nerve 5", 7);
        fault("root", 4);
        fault("root ", 5);
        fault("root 30", 5);
        fault("root 1 2", 7);
        fault("root x", 5);
        fault("clear 99999999999999999999", 6);
        fault("clear 4294967296", 6);
        fault("clear -1", 6);
        fault("root 5;clear 30", 13);
        fault("lantern 2", 8);
        fault("tall;lantern 3", 13);
        fault("bright 9;bright 10", 16);
        fault("swap 2 0", 5);
        fault("swap 0 2", 7);
        fault("swap 0 0", 7);
        fault("swap 0 1;swap 0", 15);
        fault("swap 0;", 6);
        fault("7", 0);
        fault("root 5 ; 7", 9);
        fault("tall;tall;tall;tall;tall;tall;tall", 30);
        fault("root " + (char) 228, 5);
        OneLantern x = new OneLantern();
        due("lantern with nobody", night(x, "lantern 0"), -9);
        feedText(x, "bright 5");
        x.feed(0, 1);
        due("a byte 0", x.night(), -9);
        feedText(x, "bright 5");
        x.feed(-1, 1);
        due("a byte 255", x.night(), -9);
        for (int i = 0; i < 60; i++) {
            feedText(x, "7;");
        }
        due("a full tape", x.night(), -1);
        StringBuilder many = new StringBuilder("root 1");
        for (int i = 0; i < 14; i++) {
            many.append(";bright4");
        }
        due("many items", night(x, many.append("  ").toString()), 15);
    }

    private static void sheets() {
        promise = 27;
        OneLantern x = new OneLantern();
        due("sheet", x.sheet(0, 8, 40), 40);
        due("sheet", x.sheet(3, 64, 0), 0);
        due("sheet", x.sheet(4, 8, 1), BEYOND);
        due("sheet", x.sheet(-1, 8, -1), BEYOND);
        due("sheet", x.sheet(0, 32, -1), BEYOND);
        due("sheet", x.sheet(0, 8, -1), SIZE);
        due("sheet", x.sheet(0, 8, 41), BEYOND);
        due("sheet", x.sheet(0, 0, -1), SIZE);
        due("sheet", x.sheet(0, 0, 41), BEYOND);
        due("it still stands", x.write(0, 39, 5), 0);
        due("sheet", x.sheet(0, 16, 40), 40);
        due("all are 0", x.write(0, 39, 5), 0);
        x.write(0, 0, 7);
        x.sheet(0, 16, 40);
        due("all are 0", x.write(0, 0, 5), 0);
        due("sheet", x.sheet(0, 0, 7), 0);
        due("it is missing", x.write(0, 0, 5), MISSING);
        due("empty is not missing", x.lays(3), 0);

        promise = 28;
        x.sheet(0, 8, 2);
        x.sheet(1, 16, 2);
        x.sheet(2, 64, 2);
        due("write", x.write(0, 0, 127), 0);
        due("write", x.write(0, 0, 256 + 5), 127);
        due("the lowest bits", x.write(0, 0, -1), 5);
        due("the lowest bits", x.write(0, 0, 0), -1);
        due("write", x.write(1, 1, 32767), 0);
        due("write", x.write(1, 1, 65536L * 65536 + 9), 32767);
        due("the lowest bits", x.write(1, 1, 0), 9);
        due("write", x.write(2, 0, Long.MIN_VALUE), 0);
        due("write", x.write(2, 0, BEYOND), Long.MIN_VALUE);
        int findings = x.status(-1);
        due("a number is no finding", x.write(2, 0, 0), BEYOND);
        due("a number is no finding", x.status(-1), findings);
        due("write", x.write(4, 0, 0), BEYOND);
        due("write", x.write(-1, 0, 0), BEYOND);
        x.sheet(3, 0, 0);
        due("missing comes first", x.write(3, -1, 0), MISSING);
        due("write", x.write(0, 2, 0), BEYOND);
        due("write", x.write(0, -1, 0), BEYOND);

        promise = 29;
        x = new OneLantern();
        x.sheet(0, 16, 5);
        x.sheet(1, 16, 3);
        x.sheet(2, 8, 3);
        for (int i = 0; i < 5; i++) {
            x.write(0, i, i + 1);
        }
        due("copy", x.copy(0, 0, 0, 1, 4), 4);
        due("as they all were", x.write(0, 4, 5), 4);
        due("as they all were", x.write(0, 1, 2), 1);
        due("copy", x.copy(0, 2, 1, 0, 3), 3);
        due("copied", x.write(1, 2, 0), 5);
        due("copy of none", x.copy(0, 5, 1, 3, 0), 0);
        due("copy", x.copy(0, 6, 1, 0, 0), BEYOND);
        due("copy", x.copy(0, 0, 1, 4, 0), BEYOND);
        due("copy", x.copy(0, 3, 1, 0, 3), BEYOND);
        due("copy", x.copy(0, 0, 1, 1, 3), BEYOND);
        due("copy", x.copy(0, -1, 1, 0, 1), BEYOND);
        due("copy", x.copy(0, 0, 1, -1, 1), BEYOND);
        due("copy", x.copy(0, 0, 1, 0, -1), BEYOND);
        due("copy", x.copy(0, FAR, 1, FAR, FAR), BEYOND);
        due("copy", x.copy(0, 1, 1, 1, FAR), BEYOND);
        due("copy", x.copy(0, 1, 1, 1, LOW), BEYOND);
        due("copy", x.copy(0, LOW, 1, LOW, 1), BEYOND);
        due("copy", x.copy(4, 0, 3, 0, 0), BEYOND);
        due("copy", x.copy(3, 0, -1, 0, 0), BEYOND);
        due("copy", x.copy(3, -1, 0, 0, 0), MISSING);
        due("copy", x.copy(0, -1, 3, 0, 0), MISSING);
        due("copy", x.copy(0, -1, 2, 0, 0), KIND);

        promise = 30;
        x = row(0, 0, 0);
        x.sheet(0, 64, 5);
        x.write(0, 0, 99);
        x.write(0, 1, 100);
        x.write(0, 2, 0);
        due("lays", x.lays(0), 2);
        due("nerve", x.of(0, 4), 99);
        due("left out", x.of(1, 4), 50);
        due("nerve", x.of(2, 4), 0);
        x.write(0, 0, -1);
        x.write(0, 1, 1L << 32);
        x.write(0, 2, 7);
        due("lays", x.lays(0), 1);
        due("left out", x.of(0, 4), 99);
        due("left out", x.of(1, 4), 50);
        x.sheet(1, 8, 1);
        due("lays", x.lays(1), 1);
        due("nerve", x.of(0, 4), 0);
        due("lays", x.lays(4), BEYOND);
        due("lays", x.lays(-1), BEYOND);
        due("lays", x.lays(2), MISSING);
        due("lays for nobody", emptyLays(), 0);
    }

    private static int emptyLays() {
        OneLantern x = new OneLantern();
        x.sheet(0, 8, 9);
        return x.lays(0);
    }

    private static void books() {
        promise = 31;
        OneLantern x = row(0, 0);
        x.lantern(-1);
        x.set(0, 3, 300);
        x.sheet(0, 16, 5);
        due("book", x.book(0, 0), 5);
        due("now", x.write(0, 0, 300), 300);
        due("before the root", x.write(0, 2, 300), 300);
        due("at the root", x.write(0, 3, 301), 301);
        due("behind the root", x.write(0, 4, 301), 301);
        due("nothing changes", x.now(0), 0);
        x.sheet(1, 8, 1);
        due("book", x.book(1, 0), 1);
        due("its lowest bits", x.write(1, 0, 0), 44);
        due("book", x.book(4, 0), BEYOND);
        due("book", x.book(-1, 0), BEYOND);
        due("missing comes first", x.book(2, 9), MISSING);
        due("book", x.book(0, 2), BEYOND);
        due("book", x.book(0, -1), BEYOND);

        promise = 32;
        due("all but the guide", x.read(0, 0), 50);
        x.write(0, 3, 300);
        x.write(0, 4, 300);
        due("the guide", x.read(0, 0), 10);
        x.write(0, 4, 302);
        due("none", x.read(0, 0), 0);
        due("not so from the first on", x.read(0, 1), 0);
        x.sheet(1, 64, 0);
        due("an empty sheet", x.read(1, 1), 60);
        due("read", x.read(4, 0), BEYOND);
        due("read", x.read(-1, 0), BEYOND);
        due("missing comes first", x.read(2, 9), MISSING);
        due("read", x.read(0, 2), BEYOND);
        due("read", x.read(0, -1), BEYOND);
        due("nothing changes", x.of(0, 0), 0);
        due("nothing changes", x.now(3), 3);

        x = row(0, 0, 0);
        x.roots(1 << 29);
        x.sheet(0, 8, 2);
        // a walker or a child two behind sees with bright 2 or more, a tall one and a porter too, a sleepy one in step 1, a guide always
        due("that stumble not", x.read(0, 2), 8 * 5 + 10);
        x.write(0, 1, 1);
        due("that stumble", x.read(0, 2), 2 * 5);
    }

    private static void images() {
        promise = 33;
        OneLantern x = row(0, 1);
        x.lantern(1);
        x.bright(5);
        x.set(1, 2, 1);
        x.set(1, 3, 6);
        x.set(1, 4, 7);
        x.steps(2);
        int heard = x.now(6);
        due("image", x.image(), 1);
        feedText(x, "tall");
        x.sheet(0, 8, 3);
        x.write(0, 0, 9);
        x.walker(2);
        x.swap(0, 1);
        x.lantern(2);
        x.bright(1);
        x.roots(1);
        x.steps(100);

        promise = 34;
        due("undo", x.undo(), 2);
        due("step", x.now(0), 2);
        due("roots", x.now(1), FIRST_ROOTS);
        due("lantern", x.now(2), 1);
        due("bright", x.now(3), 5);
        due("heard", x.now(6), heard);
        due("kind", x.of(1, 0), 1);
        due("stumbled", x.of(1, 3), 6);
        due("nerve", x.of(1, 4), 9);
        due("the tape stays", x.count(1), 4);
        due("the sheet stays", x.write(0, 0, 0), 9);
        x.walker(3);
        due("it stays kept", x.undo(), 2);
        x.walker(3);
        due("image", x.image(), 1);
        x.walker(3);
        due("the latest", x.undo(), 3);

        promise = 35;
        due("tear", x.tear(), 1);
        due("tear", x.tear(), 0);
        due("undo", x.undo(), NONE);
        due("walkers", x.count(0), 3);
        x = new OneLantern();
        x.image();
        x.walker(0);
        due("an image of nobody", x.undo(), 0);
        x.walker(4);
        due("a new one is new", x.of(0, 4), 50);

        promise = 36;
        x = row(0, 0);
        x.set(0, 4, 20);
        x.roots(7);
        x.feed(0, 3);
        due("walkers", x.count(0), 2);
        due("bytes", x.count(1), 3);
        due("roots", x.count(2), 3);
        due("nerve", x.count(3), 70);
        due("count", x.count(4), BEYOND);
        due("count", x.count(-1), BEYOND);
    }

    private static void statuses() {
        promise = 37;
        OneLantern x = row(0);
        x.image();
        x.now(9);
        x.now(9);
        x.as(0, 1);
        x.trips(0);
        x.write(0, 0, 0);
        x.sheet(0, 8, -1);
        for (int i = 0; i < 30; i++) {
            x.feed(0, 4);
        }
        x.feed(0, 1);
        x.night();
        int[] want = {2, 1, 1, 1, 0, 1, 1};
        for (int which = 0; which < 7; which++) {
            due("status(" + which + ")", x.status(which), want[which]);
        }
        due("all", x.status(-1), 7);
        due("status", x.status(7), BEYOND);
        due("status", x.status(-2), BEYOND);
        due("counted from then on", x.status(0), 4);
        x.undo();
        due("undo takes none back", x.status(-1), 9);
        x.tear();
        x.undo();
        due("none", x.status(3), 2);
    }

    private static void lateSteps() {
        promise = 12;
        OneLantern x = row(0);
        for (int i = 0; i < 499; i++) {
            x.steps(200);
        }
        due("step", x.now(0), 99800);
        due("steps too far", x.steps(200), STATE);
        due("beyond comes first", x.steps(201), BEYOND);
        due("step", x.now(0), 99800);
        due("steps", x.steps(199), 0);
        due("step", x.now(0), 99999);
        due("steps too far", x.steps(1), STATE);
        due("ahead goes on", x.falls(300), 0);
        due("state", x.status(4), 2);
    }
}
