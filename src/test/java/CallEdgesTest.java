/** The boundary cases that the promises 1 to 25 name, a test for each sentence. */
public final class CallEdgesTest {
    public static void main(String[] args) {
        newObject();
        roots();
        lantern();
        bright();
        now();
        walker();
        of();
        set();
        swap();
        turn();
        as();
        steps();
        on();
        falls();
        trips();
        hears();
        carry();
        order();
        kind();
        least();
        clear();
        nerve();
        worst();
        feed();
        wipe();
        Check.end();
    }

    private static void refused(String what, Check.Call call, int finding) {
        Check.refused(what, Check::camp, call, finding);
    }

    private static void beyond(String what, Check.Call call) {
        Check.refused(what, Check::camp, call, Check.BEYOND);
    }

    private static void newObject() {
        Check.sentence("Promise 1: Nobody on the path");
        OneLantern x = new OneLantern();
        Check.due("WALKERS", x.count(0), 0);
        Check.due("who is first", x.of(0, 0), Check.BEYOND);
        Check.due("STUMBLED of nobody", x.now(7), 0);
        Check.due("NERVE of nobody", x.count(3), 0);
        Check.sentence("Promise 1: THE TAPE is empty");
        x = new OneLantern();
        Check.due("bytes", x.count(1), 0);
        Check.due("wipe", x.wipe(), 0);
        Check.sentence("Promise 1: no image is kept");
        Check.refused("undo", OneLantern::new, y -> y.undo(), Check.NONE);
        Check.due("tear", x.tear(), 0);
        Check.due("no finding yet", new OneLantern().status(-1), 0);
    }

    private static void roots() {
        Check.sentence("Promise 2: ROOTS become a set (0 to 1073741823): what it was. BEYOND");
        OneLantern x = new OneLantern();
        Check.due("no root", x.roots(0), Check.FIRST_ROOTS);
        Check.due("all roots", x.roots(1073741823), 0);
        Check.due("the last PACE's alone", x.roots(1 << 29), 1073741823);
        Check.due("it became that", x.now(1), 1 << 29);
        beyond("roots(-1)", y -> y.roots(-1));
        beyond("roots(1073741824)", y -> y.roots(1073741824));
        beyond("roots of the lowest", y -> y.roots(Check.LOWEST));
        beyond("roots of the highest", y -> y.roots(Check.HIGHEST));
    }

    private static void lantern() {
        Check.sentence("Promise 3: THE LANTERN is at a place (-1: nobody has it): where it was. BEYOND");
        OneLantern x = Check.row(0, 0, 0, 0, 0, 0, 0, 0);
        Check.due("the last place", x.lantern(7), 0);
        Check.due("the first place", x.lantern(0), 7);
        Check.due("nobody", x.lantern(-1), 0);
        Check.due("nobody again", x.lantern(-1), -1);
        Check.due("behind the last", x.lantern(8), Check.BEYOND);
        Check.due("it stays", x.now(2), -1);
        beyond("lantern(-2)", y -> y.lantern(-2));
        beyond("lantern(6) of six", y -> y.lantern(6));
        beyond("lantern of the highest", y -> y.lantern(Check.HIGHEST));
        beyond("lantern of the lowest", y -> y.lantern(Check.LOWEST));
        Check.refused("lantern(0) with nobody", OneLantern::new, y -> y.lantern(0), Check.BEYOND);
        Check.due("lantern(-1) with nobody", new OneLantern().lantern(-1), 0);
    }

    private static void bright() {
        Check.sentence("Promise 4: BRIGHT becomes v: what it was. BEYOND");
        OneLantern x = new OneLantern();
        Check.due("the least", x.bright(0), 3);
        Check.due("the most", x.bright(9), 0);
        Check.due("it became that", x.now(3), 9);
        beyond("bright(-1)", y -> y.bright(-1));
        beyond("bright(10)", y -> y.bright(10));
        beyond("bright of the lowest", y -> y.bright(Check.LOWEST));
        beyond("bright of the highest", y -> y.bright(Check.HIGHEST));
    }

    private static void now() {
        Check.sentence("Promise 5: What 0 STEP, .. 7 STUMBLED of all together. BEYOND");
        OneLantern x = new OneLantern();
        int[] atFirst = {0, Check.FIRST_ROOTS, 0, 3, 0, 0, 0, 0};
        for (int what = 0; what <= 7; what++) {
            Check.due("now(" + what + ") with nobody", x.now(what), atFirst[what]);
        }
        x = Check.row(0, 0, 0, 0, 0, 0, 0, 0);
        x.steps(200);
        x.roots(Check.ALL_ROOTS);
        x.bright(7);
        for (int place = 0; place < 8; place++) {
            x.set(place, 2, 1);
            x.set(place, 3, 9999);
        }
        int[] full = {200, Check.ALL_ROOTS, 0, 7, 255, 255, 255, 79992};
        for (int what = 0; what <= 7; what++) {
            Check.due("now(" + what + ") of a full row", x.now(what), full[what]);
        }
        x.lantern(-1);
        Check.due("2 where THE LANTERN is (-1)", x.now(2), -1);
        beyond("now(-1)", y -> y.now(-1));
        beyond("now(8)", y -> y.now(8));
        Check.keeps("now(0)", Check::camp, y -> y.now(0), 44);
    }

    private static void walker() {
        Check.sentence("Promise 6: One more, last in THE ROW: its place. BEYOND: kind. FULL");
        OneLantern x = new OneLantern();
        Check.due("the first kind, the first one", x.walker(0), 0);
        Check.due("the last kind", x.walker(5), 1);
        Check.due("last in THE ROW", x.of(1, 0), 5);
        for (int place = 2; place < 8; place++) {
            Check.due("one more", x.walker(place - 2), place);
        }
        Check.due("a 9th", x.walker(0), Check.FULL);
        beyond("walker(-1)", y -> y.walker(-1));
        beyond("walker(6)", y -> y.walker(6));
        beyond("walker of the lowest", y -> y.walker(Check.LOWEST));
        beyond("walker of the highest", y -> y.walker(Check.HIGHEST));
        Check.refused("a 9th", Check::fullCamp, y -> y.walker(5), Check.FULL);
        x = Check.camp();
        Check.due("a 7th", x.walker(0), 6);
        Check.due("an 8th", x.walker(0), 7);
        Check.due("a 9th", x.walker(0), Check.FULL);
        x.undo();
        Check.due("behind an undo there is room", x.walker(0), 3);
    }

    private static void of() {
        Check.sentence("Promise 7: Of one at a place: what 0 KIND, .. 7 1 if it HEEDS, else 0. BEYOND");
        int[] first = {0, 14, 1};
        int[] last = {5, 9, 0};
        for (int what = 0; what <= 2; what++) {
            int w = what;
            Check.keeps("of(0, " + w + ")", Check::camp, y -> y.of(0, w), first[what]);
            Check.keeps("of(5, " + w + ")", Check::camp, y -> y.of(5, w), last[what]);
        }
        Check.keeps("of(4, 5)", Check::camp, y -> y.of(4, 5), 2);
        Check.keeps("of(2, 7)", Check::camp, y -> y.of(2, 7), 1);
        beyond("of(-1, 0)", y -> y.of(-1, 0));
        beyond("of(6, 0) of six", y -> y.of(6, 0));
        beyond("of(0, -1)", y -> y.of(0, -1));
        beyond("of(0, 8)", y -> y.of(0, 8));
        beyond("of the highest", y -> y.of(Check.HIGHEST, 0));
        beyond("of the lowest", y -> y.of(Check.LOWEST, 0));
        Check.refused("of(8, 0) of eight", Check::fullCamp, y -> y.of(8, 0), Check.BEYOND);
        Check.refused("of(0, 0) with nobody", OneLantern::new, y -> y.of(0, 0), Check.BEYOND);
        Check.sentence("Promise 7: 6 1 if it SEES a root there now (whether one is there or not)");
        OneLantern x = Check.row(0, 0);
        x.bright(0);
        x.roots(0);
        Check.due("none is there, in LIGHT", x.of(0, 6), 1);
        Check.due("none is there, not in LIGHT", x.of(1, 6), 0);
        x.roots(Check.ALL_ROOTS);
        Check.due("one is there, in LIGHT", x.of(0, 6), 1);
        Check.due("one is there, not in LIGHT", x.of(1, 6), 0);
    }

    private static void set() {
        Check.sentence("Promise 8: HEARD (what 2), STUMBLED (3), NERVE (4) of one becomes v: what it was. BEYOND");
        int[] most = {0, 0, 1, 9999, 99};
        int[] atFirst = {0, 0, 0, 0, 50};
        for (int what = 2; what <= 4; what++) {
            int w = what;
            OneLantern x = Check.row(0, 0, 0, 0, 0, 0, 0, 0);
            Check.due("the most of " + what, x.set(7, what, most[what]), atFirst[what]);
            Check.due("the least of " + what, x.set(7, what, 0), most[what]);
            Check.due("the least there", x.of(7, what), 0);
            Check.due("the one before", x.of(6, what), atFirst[what]);
            beyond("below the least of " + what, y -> y.set(0, w, -1));
            beyond("above the most of " + what, y -> y.set(0, w, most[w] + 1));
            beyond("the highest for " + what, y -> y.set(0, w, Check.HIGHEST));
            beyond("place -1 for " + what, y -> y.set(-1, w, 1));
            beyond("place 6 of six for " + what, y -> y.set(6, w, 1));
            Check.refused("place 8 of eight for " + what, Check::fullCamp, y -> y.set(8, w, 1), Check.BEYOND);
        }
        beyond("what 1", y -> y.set(0, 1, 1));
        beyond("what 5", y -> y.set(0, 5, 1));
        beyond("what 0", y -> y.set(0, 0, 1));
        beyond("what -1", y -> y.set(0, -1, 1));
        Check.refused("set with nobody", OneLantern::new, y -> y.set(0, 4, 1), Check.BEYOND);
    }

    private static void swap() {
        Check.sentence("Promise 9: Two change places with all that is theirs (the lantern stays at its place): 1. BEYOND: also one and the same");
        OneLantern x = Check.row(1, 0, 0, 0, 0, 0, 0, 5);
        x.set(0, 2, 1);
        x.set(0, 3, 9999);
        x.set(0, 4, 0);
        Check.due("the first and the last", x.swap(0, 7), 1);
        int[] wasFirst = {1, 23, 1, 9999, 0};
        int[] wasLast = {5, 0, 0, 0, 50};
        for (int what = 0; what <= 4; what++) {
            Check.due("of(7, " + what + ")", x.of(7, what), wasFirst[what]);
            Check.due("of(0, " + what + ")", x.of(0, what), wasLast[what]);
        }
        Check.due("the lantern stays", x.now(2), 0);
        Check.due("the last and the first", x.swap(7, 0), 1);
        Check.due("back again", x.of(0, 3), 9999);
        beyond("one and the same", y -> y.swap(3, 3));
        beyond("one and the same, none there", y -> y.swap(6, 6));
        beyond("swap(-1, 0)", y -> y.swap(-1, 0));
        beyond("swap(0, -1)", y -> y.swap(0, -1));
        beyond("swap(6, 5) of six", y -> y.swap(6, 5));
        beyond("swap(5, 6) of six", y -> y.swap(5, 6));
        Check.refused("swap(0, 8) of eight", Check::fullCamp, y -> y.swap(0, 8), Check.BEYOND);
        Check.refused("swap(8, 0) of eight", Check::fullCamp, y -> y.swap(8, 0), Check.BEYOND);
    }

    private static void turn() {
        Check.sentence("Promise 10: One becomes one of another KIND: what it was. BEYOND");
        OneLantern x = Check.row(0, 0, 0, 0, 0, 0, 0, 3);
        Check.due("the last kind", x.turn(7, 5), 3);
        Check.due("the first kind", x.turn(7, 0), 5);
        Check.due("its own kind", x.turn(7, 0), 0);
        Check.due("what is its stays", x.of(7, 4), 50);
        beyond("turn(0, -1)", y -> y.turn(0, -1));
        beyond("turn(0, 6)", y -> y.turn(0, 6));
        beyond("turn(-1, 0)", y -> y.turn(-1, 3));
        beyond("turn(6, 0) of six", y -> y.turn(6, 3));
        Check.refused("turn(8, 0) of eight", Check::fullCamp, y -> y.turn(8, 3), Check.BEYOND);
        Check.refused("turn with nobody", OneLantern::new, y -> y.turn(0, 3), Check.BEYOND);
    }

    private static void as() {
        Check.sentence("Promise 11: One as one of a kind: NERVE. BEYOND: no such one, kind");
        beyond("as(-1, 0)", y -> y.as(-1, 0));
        beyond("as(6, 0) of six", y -> y.as(6, 0));
        beyond("as(0, -1)", y -> y.as(0, -1));
        beyond("as(0, 6)", y -> y.as(0, 6));
        Check.refused("as(8, 0) of eight", Check::fullCamp, y -> y.as(8, 0), Check.BEYOND);
        Check.refused("as with nobody", OneLantern::new, y -> y.as(0, 0), Check.BEYOND);
        Check.sentence("Promise 11: KIND: it isn't of that kind, nor of one under it");
        OneLantern x = Check.row(4, 5);
        x.set(0, 4, 0);
        x.set(1, 4, 99);
        Check.due("its own kind", x.as(0, 4), 0);
        Check.due("the kind above", x.as(0, 1), 0);
        Check.due("the kind above that", x.as(0, 0), 0);
        Check.due("its own kind", x.as(1, 5), 99);
        Check.due("the kind above", x.as(1, 2), 99);
        Check.due("the kind above that", x.as(1, 0), 99);
        refused("a WALKER as a TALL one", y -> y.as(0, 1), Check.KIND);
        refused("a TALL one as a PORTER", y -> y.as(1, 4), Check.KIND);
        refused("a CHILD as a SLEEPY one", y -> y.as(2, 5), Check.KIND);
        refused("a GUIDE as a TALL one", y -> y.as(3, 1), Check.KIND);
        refused("a PORTER as a CHILD", y -> y.as(4, 2), Check.KIND);
        refused("a SLEEPY one as a PORTER", y -> y.as(5, 4), Check.KIND);
    }

    private static void steps() {
        Check.sentence("Promise 12: n STEPS go (1 to 200): STUMBLED of all together then. BEYOND");
        OneLantern x = Check.dark(Check.ALL_ROOTS, 5, 5);
        Check.due("one", x.steps(1), 2);
        Check.due("STEP", x.now(0), 1);
        Check.due("200", x.steps(200), 402);
        Check.due("STEP", x.now(0), 201);
        Check.due("with nobody", new OneLantern().steps(200), 0);
        beyond("steps(0)", y -> y.steps(0));
        beyond("steps(201)", y -> y.steps(201));
        beyond("steps(-1)", y -> y.steps(-1));
        beyond("steps of the lowest", y -> y.steps(Check.LOWEST));
        beyond("steps of the highest", y -> y.steps(Check.HIGHEST));
        Check.sentence("Promise 12: STATE: STEP would be above 99999");
        x = new OneLantern();
        for (int i = 0; i < 499; i++) {
            x.steps(200);
        }
        Check.due("to 100000", x.steps(200), Check.STATE);
        Check.due("to 99998", x.steps(198), 0);
        Check.due("to 100000", x.steps(2), Check.STATE);
        Check.due("to 99999", x.steps(1), 0);
        Check.due("to 100000", x.steps(1), Check.STATE);
        Check.due("STEP", x.now(0), 99999);
        Check.due("STATE", x.status(4), 3);
        Check.due("all findings", x.status(-1), 3);
        lateRefusal();
    }

    /** What else a refused step must not change, 500 calls on: an object has 12 left. */
    private static void lateRefusal() {
        OneLantern x = Check.dark(Check.ALL_ROOTS, 5, 0);
        x.steps(200);
        x.lantern(1);
        for (int i = 0; i < 498; i++) {
            x.steps(200);
        }
        int[] were = {x.on(0, 0, 1), x.on(1, 0, 1), x.on(0, 0, 2), x.on(1, 0, 2)};
        Check.due("to 100000", x.steps(200), Check.STATE);
        Check.due("STUMBLED stays", x.of(0, 3), were[0]);
        Check.due("STUMBLED stays", x.of(1, 3), were[1]);
        Check.due("NERVE stays", x.of(0, 4), were[2]);
    }

    private static void on() {
        Check.sentence("Promise 13: HEARD (what 0), STUMBLED (1), NERVE (2) of one n STEPS (0 to 300) AHEAD. BEYOND");
        int[] last = {0, 0, 50};
        for (int what = 0; what <= 2; what++) {
            int w = what;
            Check.keeps("now, what " + w, () -> Check.row(0, 0), y -> y.on(1, 0, w), last[what]);
        }
        Check.keeps("HEARD now", Check::camp, y -> y.on(0, 0, 0), 1);
        OneLantern near = Check.longWarned(348);
        Check.due("STUMBLED 299 AHEAD", near.on(1, 299, 1), 0);
        Check.due("STUMBLED 300 AHEAD", near.on(1, 300, 1), 1);
        Check.due("NERVE 299 AHEAD", near.on(1, 299, 2), 99);
        Check.due("NERVE 300 AHEAD", near.on(1, 300, 2), 89);
        Check.due("HEARD 299 AHEAD", near.on(2, 299, 0), 0);
        Check.due("HEARD 300 AHEAD", near.on(2, 300, 0), 1);
        OneLantern far = Check.longWarned(347);
        Check.due("STUMBLED is 301 AHEAD", far.on(1, 300, 1), 0);
        Check.due("HEARD is 301 AHEAD", far.on(2, 300, 0), 0);
        beyond("n -1", y -> y.on(0, -1, 1));
        beyond("n 301", y -> y.on(0, 301, 1));
        beyond("n of the lowest", y -> y.on(0, Check.LOWEST, 1));
        beyond("n of the highest", y -> y.on(0, Check.HIGHEST, 1));
        beyond("place -1", y -> y.on(-1, 0, 1));
        beyond("place 6 of six", y -> y.on(6, 0, 1));
        beyond("what -1", y -> y.on(0, 0, -1));
        beyond("what 3", y -> y.on(0, 0, 3));
        Check.refused("place 8 of eight", Check::fullCamp, y -> y.on(8, 0, 1), Check.BEYOND);
        Check.refused("with nobody", OneLantern::new, y -> y.on(0, 0, 1), Check.BEYOND);
    }

    private static void falls() {
        Check.sentence("Promise 14: STUMBLED of all together n STEPS (0 to 300) AHEAD. BEYOND");
        OneLantern x = Check.dark(Check.ALL_ROOTS, 5);
        x.set(0, 3, 7);
        Check.due("now", x.falls(0), 7);
        Check.due("one AHEAD", x.falls(1), 8);
        Check.due("300 AHEAD", x.falls(300), 307);
        Check.due("with nobody", new OneLantern().falls(300), 0);
        Check.due("with nobody, now", new OneLantern().falls(0), 0);
        beyond("falls(-1)", y -> y.falls(-1));
        beyond("falls(301)", y -> y.falls(301));
        beyond("falls of the lowest", y -> y.falls(Check.LOWEST));
        beyond("falls of the highest", y -> y.falls(Check.HIGHEST));
    }

    private static void trips() {
        Check.sentence("Promise 15: In how many STEPS (1 to 300) one has stumbled next. BEYOND. NONE");
        Check.due("the next STEP", Check.dark(2, 0).trips(0), 1);
        OneLantern x = Check.dark(1, 0);
        Check.due("a root where it is, a round on", x.trips(0), 30);
        Check.due("300 AHEAD", Check.longWarned(348).trips(1), 300);
        Check.refused("301 AHEAD", () -> Check.longWarned(347), y -> y.trips(1), Check.NONE);
        Check.refused("never", () -> Check.dark(0, 0), y -> y.trips(0), Check.NONE);
        x = Check.dark(2, 0);
        x.set(0, 3, 9999);
        Check.due("with STUMBLED held", x.trips(0), 1);
        x.steps(1);
        Check.due("the next one, not the last", x.trips(0), 30);
        beyond("trips(-1)", y -> y.trips(-1));
        beyond("trips(6) of six", y -> y.trips(6));
        Check.refused("trips(8) of eight", Check::fullCamp, y -> y.trips(8), Check.BEYOND);
        Check.refused("trips(0) with nobody", OneLantern::new, y -> y.trips(0), Check.BEYOND);
    }

    private static void hears() {
        Check.sentence("Promise 16: In how many STEPS (0 to 300) one has HEARD first. BEYOND. NONE");
        OneLantern x = Check.dark(2, 0, 0);
        Check.due("the next STEP", x.hears(1), 1);
        x.steps(1);
        Check.due("now", x.hears(1), 0);
        x.steps(1);
        Check.due("a round on", x.hears(1), 29);
        x.set(0, 2, 1);
        Check.due("the first in the row, now", x.hears(0), 0);
        Check.due("300 AHEAD", Check.longWarned(348).hears(2), 300);
        Check.refused("301 AHEAD", () -> Check.longWarned(347), y -> y.hears(2), Check.NONE);
        Check.refused("never", () -> Check.dark(Check.ALL_ROOTS, 0), y -> y.hears(0), Check.NONE);
        beyond("hears(-1)", y -> y.hears(-1));
        beyond("hears(6) of six", y -> y.hears(6));
        Check.refused("hears(8) of eight", Check::fullCamp, y -> y.hears(8), Check.BEYOND);
        Check.refused("hears(0) with nobody", OneLantern::new, y -> y.hears(0), Check.BEYOND);
    }

    /**
     * The carrier alone sees. Up to n from 99 places 0 and 2 save three falls each by it (12, 42, 72 and 10, 40, 70);
     * in STEP 100 place 2 saves a fourth one. In the other STEPS at a root (the rest by 3 is 2) a SLEEPY one sees nothing.
     */
    private static OneLantern carriers() {
        OneLantern x = Check.row(5, 3, 5);
        x.bright(0);
        x.roots(1 << 8 | 1 << 12);
        return x;
    }

    private static void carry() {
        Check.sentence("Promise 17: .. STUMBLED of all together is least n STEPS (1 to 100) AHEAD; of several the least");
        Check.due("99 AHEAD, as many", carriers().carry(99), 0);
        Check.due("100 AHEAD", carriers().carry(100), 2);
        OneLantern x = carriers();
        x.steps(29);
        Check.due("the fourth one is 101 AHEAD", x.carry(100), 0);
        x.steps(1);
        Check.due("and 100 AHEAD", x.carry(100), 2);
        x = Check.row(5, 5, 5, 5, 5, 5, 5, 5);
        x.bright(0);
        x.roots(1 << 24);
        Check.due("one AHEAD, the last place", x.carry(1), 7);
        x.roots(2);
        Check.due("one AHEAD, the first place", x.carry(1), 0);
        x.roots(1 << 2);
        Check.due("one AHEAD, as many", x.carry(1), 0);
        x.lantern(-1);
        x.roots(0);
        Check.due("nobody has it yet", x.carry(100), 0);
        Check.due("the least, as all are held", allHeld().carry(100), 0);
        beyond("carry(0)", y -> y.carry(0));
        beyond("carry(101)", y -> y.carry(101));
        beyond("carry of the lowest", y -> y.carry(Check.LOWEST));
        beyond("carry of the highest", y -> y.carry(Check.HIGHEST));
        Check.sentence("Promise 17: NONE: nobody is there");
        Check.refused("carry(1)", OneLantern::new, y -> y.carry(1), Check.NONE);
        Check.refused("carry(100)", OneLantern::new, y -> y.carry(100), Check.NONE);
        Check.due("one is there", Check.row(0).carry(1), 0);
    }

    private static void order() {
        Check.sentence("Promise 18: .. least n STEPS (1 to 100) AHEAD, less than as it is; of several the least. BEYOND. NONE");
        // the SLEEPY one falls 4 times at place 0 (10, 40, 70, 100) and 3 times at place 1 (11, 41, 71) up to 100 AHEAD alone
        Check.Scene pair = () -> Check.dark(1 << 10, 5, 3);
        Check.refused("99 AHEAD: not less", pair, y -> y.order(99), Check.NONE);
        Check.keeps("100 AHEAD: less", pair, y -> y.order(100), 1);
        Check.Scene later = () -> {
            OneLantern x = Check.dark(1 << 10, 5, 3);
            x.steps(29);
            return x;
        };
        Check.refused("101 AHEAD it would be less", later, y -> y.order(100), Check.NONE);
        OneLantern x = Check.dark(1 << 25, 3, 3, 3, 3, 3, 3, 5, 3);
        Check.due("one AHEAD, of several the least", x.order(1), 6);
        x = Check.dark(1 << 24 | 2, 5, 3, 5, 3, 5, 3, 5, 5);
        Check.due("of several the least, the first two", x.order(1), 1);
        x = Check.dark(1 << 24, 5, 5, 5, 5, 5, 5, 3, 5);
        Check.due("the last two", x.order(1), 67);
        x = Check.dark(2, 5, 0, 0, 0, 0, 0, 0, 3);
        Check.due("the first and the last", x.order(1), 7);
        Check.refused("of one", () -> Check.dark(2, 0), y -> y.order(1), Check.NONE);
        Check.refused("of nobody", OneLantern::new, y -> y.order(1), Check.NONE);
        Check.refused("of eight that are held", CallEdgesTest::allHeld, y -> y.order(100), Check.NONE);
        Check.refused("of two alike", () -> Check.dark(2, 0, 0), y -> y.order(100), Check.NONE);
        beyond("order(0)", y -> y.order(0));
        beyond("order(101)", y -> y.order(101));
        beyond("order of the lowest", y -> y.order(Check.LOWEST));
        beyond("order of the highest", y -> y.order(Check.HIGHEST));
    }

    private static void kind() {
        Check.sentence("Promise 19: The KIND as one of which one has STUMBLED least n STEPS (1 to 100) AHEAD; of several the least. BEYOND");
        Check.due("no fall up to 100 AHEAD", Check.longWarned(547).kind(1, 100), 0);
        Check.due("a fall 100 AHEAD", Check.longWarned(548).kind(1, 100), 3);
        Check.due("and not 99 AHEAD", Check.longWarned(548).kind(1, 99), 0);
        Check.due("one AHEAD, in the dark", Check.dark(2, 0).kind(0, 1), 3);
        Check.due("one AHEAD, no root", Check.dark(4, 5).kind(0, 1), 0);
        OneLantern x = Check.row(0, 0, 0, 0, 0, 0, 0, 4);
        x.lantern(7);
        x.roots(1 << 24);
        Check.due("the last place, of several the least", x.kind(7, 1), 0);
        x.set(7, 3, 9999);
        Check.due("as many, being held", x.kind(7, 100), 0);
        x = Check.dark(2, 0);
        x.set(0, 2, 1);
        x.set(0, 4, 29);
        Check.due("a CHILD heeds, and is less than a GUIDE", x.kind(0, 1), 2);
        x.set(0, 4, 30);
        Check.due("a WALKER heeds, too", x.kind(0, 1), 0);
        beyond("n 0", y -> y.kind(0, 0));
        beyond("n 101", y -> y.kind(0, 101));
        beyond("n of the lowest", y -> y.kind(0, Check.LOWEST));
        beyond("n of the highest", y -> y.kind(0, Check.HIGHEST));
        beyond("place -1", y -> y.kind(-1, 1));
        beyond("place 6 of six", y -> y.kind(6, 1));
        Check.refused("place 8 of eight", Check::fullCamp, y -> y.kind(8, 1), Check.BEYOND);
        Check.refused("with nobody", OneLantern::new, y -> y.kind(0, 1), Check.BEYOND);
    }

    private static void least() {
        Check.sentence("Promise 20: The least BRIGHT (0 to 9) with which .. v (0 to 99999) or less n STEPS (1 to 100) AHEAD. BEYOND. NONE");
        // falls in 10, 40, 70 and 100
        Check.Scene lone = () -> Check.dark(1 << 10, 0);
        Check.refused("3 or less 100 AHEAD", lone, y -> y.least(100, 3), Check.NONE);
        Check.keeps("4 or less 100 AHEAD", lone, y -> y.least(100, 4), 0);
        Check.keeps("3 or less 99 AHEAD", lone, y -> y.least(99, 3), 0);
        OneLantern x = Check.dark(1 << 10, 0);
        x.steps(29);
        x.set(0, 3, 0);
        Check.due("the fourth one is 101 AHEAD", x.least(100, 3), 0);
        x = Check.row(0, 4, 4, 1, 0);
        x.roots(1 << 27);
        Check.due("9 is the least", x.least(1, 0), 9);
        Check.due("0 is the least", x.least(1, 1), 0);
        x = Check.row(0, 0);
        x.roots(1);
        Check.due("1 is the least", x.least(1, 0), 1);
        Check.refused("10 would be the least", CallEdgesTest::deepShade, y -> y.least(1, 0), Check.NONE);
        x = allHeld();
        Check.due("the most that can be", x.least(100, 79992), 0);
        Check.due("1 less", x.least(100, 79991), Check.NONE);
        Check.due("v 99999", x.least(100, 99999), 0);
        Check.due("v 0 with nobody", new OneLantern().least(1, 0), 0);
        beyond("n 0", y -> y.least(0, 0));
        beyond("n 101", y -> y.least(101, 0));
        beyond("v -1", y -> y.least(1, -1));
        beyond("v 100000", y -> y.least(1, 100000));
        beyond("n of the highest", y -> y.least(Check.HIGHEST, 0));
        beyond("v of the lowest", y -> y.least(1, Check.LOWEST));
    }

    /** Eight whose STUMBLED can be no more. */
    private static OneLantern allHeld() {
        OneLantern x = Check.row(0, 0, 0, 0, 0, 0, 0, 0);
        for (int place = 0; place < 8; place++) {
            x.set(place, 3, 9999);
        }
        return x;
    }

    /** The last one is 4 off, and 6 comes off BRIGHT first. */
    private static OneLantern deepShade() {
        OneLantern x = Check.row(0, 4, 4, 4, 0);
        x.roots(1 << 27);
        return x;
    }

    private static void clear() {
        Check.sentence("Promise 21: The PACE whose ROOT, cleared now, .. n STEPS (1 to 60) AHEAD; of several the least. BEYOND");
        // PACE 0 in 30 and 60, PACE 5 in 5 and 35
        OneLantern x = Check.dark(1 | 1 << 5, 0);
        Check.due("59 AHEAD", x.clear(59), 5);
        Check.due("60 AHEAD, as many", x.clear(60), 0);
        x.roots(1 << 5 | 1 << 10);
        x.steps(9);
        // PACE 10 is 1, 31 and 61 AHEAD, PACE 5 is 26 and 56 AHEAD
        Check.due("the third one is 61 AHEAD", x.clear(60), 5);
        Check.due("one AHEAD", x.clear(1), 10);
        x = Check.dark(1 | 1 << 29, 0);
        x.steps(28);
        Check.due("the last PACE", x.clear(1), 29);
        x.steps(1);
        Check.due("the first PACE", x.clear(1), 0);
        x.roots(1 << 29);
        Check.due("the last root", x.clear(60), 29);
        Check.due("the least, as nobody falls", new OneLantern().clear(60), 3);
        Check.due("the least, as all are held", allHeld().clear(60), 3);
        beyond("clear(0)", y -> y.clear(0));
        beyond("clear(61)", y -> y.clear(61));
        beyond("clear of the lowest", y -> y.clear(Check.LOWEST));
        beyond("clear of the highest", y -> y.clear(Check.HIGHEST));
        Check.sentence("Promise 21: NONE: there is no ROOT");
        Check.refused("clear(1)", () -> Check.dark(0, 0), y -> y.clear(1), Check.NONE);
        Check.refused("clear(60)", () -> Check.dark(0), y -> y.clear(60), Check.NONE);
    }

    private static void nerve() {
        Check.sentence("Promise 22: The least NERVE (0 to 99) .. STUMBLED no more n STEPS (1 to 100) AHEAD than now. BEYOND. NONE");
        Check.keeps("the fall is 101 AHEAD", () -> Check.longWarned(547), y -> y.nerve(1, 100), 0);
        Check.refused("the fall is 100 AHEAD", () -> Check.longWarned(548), y -> y.nerve(1, 100), Check.NONE);
        Check.keeps("the fall is not 99 AHEAD", () -> Check.longWarned(548), y -> y.nerve(1, 99), 0);
        // the one behind the guide is warned in STEP 1 and comes to the root in STEP 2, with 1 more than now
        OneLantern x = Check.dark(2, 3, 0);
        Check.due("29 and 1", x.nerve(1, 2), 29);
        Check.due("before the root", x.nerve(1, 1), 0);
        x.steps(1);
        Check.due("one AHEAD", x.nerve(1, 1), 30);
        Check.refused("no NERVE is enough", () -> Check.dark(2, 0), y -> y.nerve(0, 1), Check.NONE);
        x = Check.dark(Check.ALL_ROOTS, 3, 0, 0);
        x.steps(1);
        Check.due("30 is enough for a word each STEP", x.nerve(1, 100), 30);
        x = Check.dark(2, 0);
        x.set(0, 3, 9999);
        Check.due("no more than is held", x.nerve(0, 100), 0);
        x.set(0, 3, 9998);
        Check.due("one more", x.nerve(0, 100), Check.NONE);
        beyond("n 0", y -> y.nerve(0, 0));
        beyond("n 101", y -> y.nerve(0, 101));
        beyond("n of the lowest", y -> y.nerve(0, Check.LOWEST));
        beyond("n of the highest", y -> y.nerve(0, Check.HIGHEST));
        beyond("place -1", y -> y.nerve(-1, 1));
        beyond("place 6 of six", y -> y.nerve(6, 1));
        Check.refused("place 8 of eight", Check::fullCamp, y -> y.nerve(8, 1), Check.BEYOND);
        Check.refused("with nobody", OneLantern::new, y -> y.nerve(0, 1), Check.BEYOND);
    }

    private static void worst() {
        Check.sentence("Promise 23: Who has STUMBLED most n STEPS (0 to 300) AHEAD; of several the least. BEYOND");
        for (int step = 347; step <= 348; step++) {
            OneLantern x = Check.longWarned(step);
            x.set(0, 3, 0);
            x.set(1, 3, 30);
            x.set(2, 3, 0);
            // the porter and the third one fall 30 times in 300 STEPS, the child once, in STEP 648
            Check.due("300 AHEAD of " + step, x.worst(300), step == 348 ? 1 : 0);
            Check.due("now", x.worst(0), 1);
        }
        OneLantern x = Check.dark(0, 0, 0, 0, 0, 0, 0, 0, 0);
        Check.due("of several the least", x.worst(300), 0);
        x.set(7, 3, 1);
        Check.due("the last", x.worst(0), 7);
        x.set(6, 3, 1);
        Check.due("of several the least", x.worst(0), 6);
        beyond("worst(-1)", y -> y.worst(-1));
        beyond("worst(301)", y -> y.worst(301));
        beyond("worst of the lowest", y -> y.worst(Check.LOWEST));
        beyond("worst of the highest", y -> y.worst(Check.HIGHEST));
        Check.sentence("Promise 23: NONE: nobody is there");
        Check.refused("worst(0)", OneLantern::new, y -> y.worst(0), Check.NONE);
        Check.refused("worst(300)", OneLantern::new, y -> y.worst(300), Check.NONE);
        Check.due("one is there", Check.row(0).worst(0), 0);
    }

    /** A camp whose tape has so many bytes, all of them blanks but for its text. */
    private static OneLantern taped(int bytes) {
        OneLantern x = Check.emptyTapeCamp();
        Check.feed(x, "root 5");
        Check.feed(x, Check.blanks(bytes - 6));
        return x;
    }

    private static void feed() {
        Check.sentence("Promise 24: THE TAPE gets the n lowest bytes of a number behind it, the highest of these first (n 1 to 4): how many it has");
        OneLantern x = new OneLantern();
        Check.due("4 bytes", x.feed(0x62726967, 4), 4);
        Check.due("1 byte, the rest left out", x.feed(0x41414168, 1), 5);
        Check.due("2 bytes, the rest left out", x.feed(0x41417420, 2), 7);
        Check.due("1 byte", x.feed('7', 1), 8);
        Check.due("that was bright 7", x.night(), 1);
        Check.due("BRIGHT", x.now(3), 7);
        Check.due("3 bytes, the rest left out", x.feed(0xff726f6f, 3), 3);
        Check.due("3 bytes, the rest left out", x.feed(0x41742030, 3), 6);
        Check.due("that was root 0", x.night(), 1);
        Check.due("ROOTS", x.now(1), Check.FIRST_ROOTS | 1);
        Check.sentence("Promise 24: BEYOND: n");
        beyond("n 0", y -> y.feed(0x20202020, 0));
        beyond("n 5", y -> y.feed(0x20202020, 5));
        beyond("n -1", y -> y.feed(0x20202020, -1));
        beyond("n of the lowest", y -> y.feed(0x20202020, Check.LOWEST));
        beyond("n of the highest", y -> y.feed(0x20202020, Check.HIGHEST));
        Check.sentence("Promise 24: FULL");
        for (int n = 1; n <= 4; n++) {
            int bytes = n;
            Check.due("the last " + n, taped(120 - n).feed(0x20202020, n), 120);
            Check.refused("one byte too many of " + n, () -> taped(121 - bytes), y -> y.feed(0x3b3b3b3b, bytes), Check.FULL);
            Check.refused(n + " to a full tape", () -> taped(120), y -> y.feed(0x3b3b3b3b, bytes), Check.FULL);
        }
        Check.refused("n 0 to a full tape", () -> taped(120), y -> y.feed(0, 0), Check.BEYOND);
    }

    private static void wipe() {
        Check.sentence("Promise 25: THE TAPE is empty: how many it had");
        Check.keeps("an empty one", Check::emptyTapeCamp, y -> y.wipe(), 0);
        OneLantern full = taped(120);
        Check.due("a full one", full.wipe(), 120);
        Check.due("it is empty", full.count(1), 0);
        Check.due("there is room", full.feed(' ', 4), 4);
        OneLantern one = Check.emptyTapeCamp();
        one.feed('x', 1);
        Check.due("one byte", one.wipe(), 1);
        Check.same("wipe", one, Check.emptyTapeCamp());
    }
}
