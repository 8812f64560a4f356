/** The boundary cases that the document's Terms name, a test for each sentence. */
public final class TermsEdgesTest {
    private static final int[] EIGHT_WALKERS = {0, 0, 0, 0, 0, 0, 0, 0};

    public static void main(String[] args) {
        calls();
        findings();
        findingsInOrder();
        stepAtFirstAndAtMost();
        paces();
        rootsAtFirst();
        walkersAtMost();
        lanternAtFirst();
        brightReach();
        kindsUnderKinds();
        heardOfTheLastStep();
        stumbledHeld();
        nerveHeld();
        newWalkers();
        shades();
        sees();
        says();
        heeds();
        lightIsNoMoreThanBright();
        lightBehindIsShaded();
        shadeBetweenAlone();
        stepIsOneMoreFirst();
        wordOfTheStepBefore();
        nerveAsItIsNow();
        wordGoesOnePlace();
        tapeAtMost();
        aheadChangesNothing();
        sheetsAtFirstAndAtMost();
        Check.end();
    }

    private static void calls() {
        Check.sentence("An object is used for at most 512 calls after it has been made");
        OneLantern x = new OneLantern();
        for (int call = 1; call <= 511; call++) {
            x.now(8);
        }
        Check.due("call 512", x.status(0), 511);
    }

    private static void findings() {
        Check.sentence("-1000000001 BEYOND .. -1000000007 SIZE (in longs, too)");
        OneLantern x = row8();
        Check.due("BEYOND", x.now(8), -1000000001);
        Check.due("FULL", x.walker(0), -1000000002);
        Check.due("KIND", x.as(0, 1), -1000000003);
        Check.due("NONE", x.undo(), -1000000004);
        Check.due("MISSING", x.lays(0), -1000000006);
        Check.due("SIZE", x.sheet(0, 8, -1), -1000000007);
        Check.due("BEYOND in longs", x.write(4, 0, 0L), -1000000001L);
        Check.due("MISSING in longs", x.write(0, 0, 0L), -1000000006L);
        OneLantern late = late();
        Check.due("STATE", late.steps(200), -1000000005);
    }

    private static OneLantern row8() {
        return Check.row(EIGHT_WALKERS);
    }

    /** One walker with the lantern, STEP 99800, with 500 of its 512 calls gone. */
    private static OneLantern late() {
        OneLantern x = Check.row(0);
        for (int i = 0; i < 499; i++) {
            x.steps(200);
        }
        return x;
    }

    private static void findingsInOrder() {
        Check.sentence("Each act tells its findings in the order in which they are asked");
        Check.refused("walker(6) in a full row", Check::fullCamp, x -> x.walker(6), Check.BEYOND);
        Check.refused("as with no such kind", Check::camp, x -> x.as(0, 6), Check.BEYOND);
        Check.refused("carry(0) of nobody", OneLantern::new, x -> x.carry(0), Check.BEYOND);
        Check.refused("order(101) of nobody", OneLantern::new, x -> x.order(101), Check.BEYOND);
        Check.refused("worst(301) of nobody", OneLantern::new, x -> x.worst(301), Check.BEYOND);
        Check.refused("clear(61) without a root", () -> Check.dark(0, 0), x -> x.clear(61), Check.BEYOND);
        Check.refused("feed of 5 to a full tape", TermsEdgesTest::fullTape, x -> x.feed(0, 5), Check.BEYOND);
        Check.refused("sheet -1 of -1", Check::camp, x -> x.sheet(-1, 8, -1), Check.BEYOND);
        Check.refused("sheet of 32 bits, of -1", Check::camp, x -> x.sheet(0, 32, -1), Check.BEYOND);
        Check.refused("sheet 4, of 32 bits, of 41", Check::camp, x -> x.sheet(4, 32, 41), Check.BEYOND);
        Check.refused("write to sheet 3 at -1", Check::camp, x -> x.write(3, -1, 1), Check.MISSING);
        Check.refused("copy of 3 to 4", Check::camp, x -> x.copy(3, 0, 4, 0, 1), Check.BEYOND);
        Check.refused("copy of 4 to 3", Check::camp, x -> x.copy(4, 0, 3, 0, 1), Check.BEYOND);
        Check.refused("copy of -1 from 3", Check::camp, x -> x.copy(3, 0, 0, 0, -1), Check.MISSING);
        Check.refused("copy of -1 to 3", Check::camp, x -> x.copy(0, 0, 3, 0, -1), Check.MISSING);
        Check.refused("copy of -1 to other bits", Check::camp, x -> x.copy(0, 0, 1, 0, -1), Check.KIND);
        Check.refused("book of nobody to sheet 3", Check::camp, x -> x.book(3, 6), Check.MISSING);
        Check.refused("read of nobody in sheet 3", Check::camp, x -> x.read(3, 6), Check.MISSING);
        Check.refused("book of nobody to sheet 4", Check::camp, x -> x.book(4, 6), Check.BEYOND);
        Check.refused("read of nobody in sheet 4", Check::camp, x -> x.read(4, 6), Check.BEYOND);
        OneLantern x = late();
        Check.due("steps(201) above 99999", x.steps(201), Check.BEYOND);
        Check.due("steps(0) there", x.steps(0), Check.BEYOND);
        Check.due("STATE", x.status(4), 0);
    }

    private static OneLantern fullTape() {
        OneLantern x = Check.camp();
        Check.feed(x, Check.blanks(96));
        return x;
    }

    private static void stepAtFirstAndAtMost() {
        Check.sentence("STEP: 0 at first (99999 at most)");
        Check.due("STEP at first", new OneLantern().now(0), 0);
        OneLantern x = late();
        Check.due("to 100000", x.steps(200), Check.STATE);
        Check.due("STEP", x.now(0), 99800);
        Check.due("to 99999", x.steps(199), 0);
        Check.due("STEP", x.now(0), 99999);
        Check.due("one more", x.steps(1), Check.STATE);
        Check.due("STEP", x.now(0), 99999);
        Check.due("PACE", x.of(0, 1), 9);
        Check.due("STATE", x.status(4), 2);
        Check.due("all findings", x.status(-1), 2);
    }

    private static void paces() {
        Check.sentence("PACES 0 to 29, then 0 again");
        OneLantern x = Check.row(0);
        x.steps(29);
        Check.due("STEP 29", x.of(0, 1), 29);
        x.steps(1);
        Check.due("STEP 30", x.of(0, 1), 0);
        x.steps(29);
        Check.due("STEP 59", x.of(0, 1), 29);
        x.steps(1);
        Check.due("STEP 60", x.of(0, 1), 0);
        x = Check.dark(1, 0);
        Check.due("no fall up to PACE 29", x.steps(29), 0);
        Check.due("a fall at PACE 0", x.steps(1), 1);
        x = Check.dark(1 << 29, 0);
        Check.due("no fall up to PACE 28", x.steps(28), 0);
        Check.due("a fall at PACE 29", x.steps(1), 1);
        Check.due("none at PACE 0", x.steps(1), 1);

        Check.sentence("the next one behind 1 less (0 less 1: 29), and so on by places");
        x = row8();
        for (int step = 0; step <= 31; step++) {
            int pace = step % 30;
            for (int place = 0; place < 8; place++) {
                Check.due("PACE of " + place + " in STEP " + step, x.of(place, 1), pace);
                pace = pace == 0 ? 29 : pace - 1;
            }
            x.steps(1);
        }
        x = row8();
        x.roots(1 << 29);
        Check.due("AT PACE 29 in STEP 0", x.now(5), 1 << 1);
        x.roots(1 << 23);
        Check.due("AT PACE 23 in STEP 0", x.now(5), 1 << 7);
        x.roots(1 << 22);
        Check.due("AT PACE 22 in STEP 0", x.now(5), 0);
    }

    private static void rootsAtFirst() {
        Check.sentence("ROOTS: those whose rest by 7 is 3, at first");
        int set = new OneLantern().now(1);
        for (int pace = 0; pace < 32; pace++) {
            boolean due = pace < 30 && pace % 7 == 3;
            Check.due("a root at " + pace, set >>> pace & 1, due ? 1 : 0);
        }
    }

    private static void walkersAtMost() {
        Check.sentence("WALKERS (at most 8) stand in THE ROW at places 0, 1, ..");
        OneLantern x = new OneLantern();
        for (int place = 0; place < 8; place++) {
            Check.due("the next one", x.walker(place % 6), place);
        }
        Check.due("a 9th", x.walker(0), Check.FULL);
        Check.due("the first one", x.of(0, 0), 0);
        Check.due("the last one", x.of(7, 0), 1);
        Check.due("none at 8", x.of(8, 0), Check.BEYOND);
    }

    private static void lanternAtFirst() {
        Check.sentence("THE LANTERN: at a place (0 at first; -1: nobody has it)");
        OneLantern x = new OneLantern();
        Check.due("at first", x.now(2), 0);
        Check.due("nobody is in LIGHT", x.now(4), 0);
        x.walker(0);
        Check.due("the first who comes has it", x.now(4), 1);
        x.lantern(-1);
        Check.due("nobody has it", x.now(2), -1);
        Check.due("nobody is in LIGHT", x.now(4), 0);
        x.bright(9);
        Check.due("however bright", x.now(4), 0);
    }

    private static void brightReach() {
        Check.sentence("BRIGHT (0 to 9; 3 at first): how many places it reaches before and behind");
        OneLantern x = row8();
        Check.due("at first", x.now(3), 3);
        for (int lantern : new int[] {0, 3, 7}) {
            x.lantern(lantern);
            for (int bright = 0; bright <= 9; bright++) {
                x.bright(bright);
                int lit = 0;
                for (int place = 0; place < 8; place++) {
                    lit |= Math.abs(place - lantern) <= bright ? 1 << place : 0;
                }
                Check.due("lit from " + lantern + " with " + bright, x.now(4), lit);
            }
        }
        Check.due("below 0", x.bright(-1), Check.BEYOND);
        Check.due("above 9", x.bright(10), Check.BEYOND);
    }

    private static void kindsUnderKinds() {
        Check.sentence("0 WALKER, 1 TALL under WALKER, .. 4 PORTER under TALL, 5 SLEEPY under CHILD");
        OneLantern x = Check.row(0, 1, 2, 3, 4, 5);
        int[] asKinds = {0b1, 0b11, 0b101, 0b1001, 0b10011, 0b100101};
        for (int place = 0; place < 6; place++) {
            for (int kind = 0; kind < 6; kind++) {
                boolean is = (asKinds[place] >> kind & 1) == 1;
                Check.due("kind " + place + " as " + kind, x.as(place, kind), is ? 50 : Check.KIND);
            }
        }
    }

    private static void heardOfTheLastStep() {
        Check.sentence("HEARD (1: a word has come to it in the STEP that went last; 0 at first)");
        OneLantern x = Check.dark(2, 0, 0);
        Check.due("at first", x.of(1, 2), 0);
        x.steps(1);
        Check.due("in the STEP of the word", x.of(1, 2), 1);
        x.steps(1);
        Check.due("a STEP later", x.of(1, 2), 0);
        Check.due("the first in the row", x.of(0, 2), 0);
        x.set(0, 2, 1);
        x.steps(1);
        Check.due("nobody is before the first", x.of(0, 2), 0);
    }

    private static void stumbledHeld() {
        Check.sentence("STUMBLED (0 at first, held to 9999)");
        OneLantern x = Check.dark(Check.ALL_ROOTS, 0, 0);
        Check.due("at first", x.of(0, 3), 0);
        x.set(0, 3, 9998);
        Check.due("9998 and 1", x.on(0, 1, 1), 9999);
        x.steps(1);
        Check.due("9999", x.of(0, 3), 9999);
        x.steps(1);
        Check.due("9999 and 1", x.of(0, 3), 9999);
        Check.due("the fall is one still: NERVE", x.of(0, 4), 30);
        Check.due("the fall is one still: the word", x.of(1, 2), 1);
        Check.due("all together", x.now(7), 10000);
    }

    private static void nerveHeld() {
        Check.sentence("stumbles: NERVE 10 less (0 at least)");
        int[][] falls = {{99, 89}, {11, 1}, {10, 0}, {9, 0}, {1, 0}, {0, 0}};
        for (int[] fall : falls) {
            OneLantern x = Check.dark(2, 0);
            x.set(0, 4, fall[0]);
            x.steps(1);
            Check.due("NERVE " + fall[0] + " behind a fall", x.of(0, 4), fall[1]);
        }
        Check.sentence("any other one: NERVE is 1 more (99 at most)");
        int[][] rests = {{0, 1}, {97, 98}, {98, 99}, {99, 99}};
        for (int[] rest : rests) {
            OneLantern x = Check.dark(0, 0);
            x.set(0, 4, rest[0]);
            x.steps(1);
            Check.due("NERVE " + rest[0] + " without a fall", x.of(0, 4), rest[1]);
        }
        OneLantern x = Check.row(0);
        x.roots(2);
        x.steps(1);
        Check.due("of one that sees the root", x.of(0, 4), 51);
    }

    private static void newWalkers() {
        Check.sentence("Each has HEARD (0 at first), STUMBLED (0 at first), NERVE (50 at first)");
        OneLantern x = Check.dark(Check.ALL_ROOTS, 0);
        x.image();
        x.walker(0);
        x.steps(9);
        x.undo();
        for (int kind = 0; kind < 6; kind++) {
            int place = x.walker(kind);
            Check.due("HEARD of a new " + kind, x.of(place, 2), 0);
            Check.due("STUMBLED of a new " + kind, x.of(place, 3), 0);
            Check.due("NERVE of a new " + kind, x.of(place, 4), 50);
        }
        x = Check.dark(2, 0);
        x.steps(1);
        x.walker(0);
        Check.due("a word said before it came", x.of(1, 2), 0);
    }

    private static void shades() {
        Check.sentence("SHADES: WALKER: 0. TALL: 1. CHILD: as WALKER. GUIDE: as WALKER. PORTER: as TALL, and 1. SLEEPY: as CHILD");
        int[] shades = {0, 1, 0, 0, 2, 0};
        for (int kind = 0; kind < 6; kind++) {
            OneLantern x = Check.row(0, kind, 0);
            Check.due("SHADES of " + kind, x.of(1, 5), shades[kind]);
            x.bright(2 + shades[kind]);
            Check.due("bright enough past " + kind, x.now(4) >> 2, 1);
            x.bright(1 + shades[kind]);
            Check.due("not bright enough past " + kind, x.now(4) >> 2, 0);
        }
    }

    private static void sees() {
        Check.sentence("TALL: in LIGHT, if d is 2 or less");
        OneLantern x = row8();
        x.bright(9);
        x.lantern(3);
        for (int place = 0; place < 8; place++) {
            x.turn(place, 1);
            Check.due("a TALL one sees at " + place, x.of(place, 6), Math.abs(place - 3) <= 2 ? 1 : 0);
            x.turn(place, 0);
        }
        x.bright(1);
        x.turn(1, 1);
        x.turn(2, 1);
        Check.due("2 off, not in LIGHT", x.of(1, 6), 0);
        Check.due("1 off, in LIGHT", x.of(2, 6), 1);

        Check.sentence("PORTER: as TALL, but not with the lantern at its own place");
        x = Check.row(0, 0, 0, 0, 0, 0, 0);
        x.bright(9);
        x.lantern(3);
        for (int place = 0; place < 7; place++) {
            x.turn(place, 4);
            int d = Math.abs(place - 3);
            Check.due("a PORTER sees at " + place, x.of(place, 6), d >= 1 && d <= 2 ? 1 : 0);
            x.turn(place, 0);
        }

        Check.sentence("SLEEPY: as CHILD, and the rest of t by 3 isn't 2");
        x = Check.row(5);
        x.roots(Check.ALL_ROOTS);
        int[] stumbled = {0, 1, 1, 1, 2, 2, 2, 3};
        for (int t = 1; t <= 8; t++) {
            Check.due("STUMBLED in STEP " + t, x.steps(1), stumbled[t - 1]);
            Check.due("sees in STEP " + t, x.of(0, 6), t % 3 == 2 ? 0 : 1);
        }
        x.lantern(-1);
        Check.due("not in LIGHT", x.of(0, 6), 0);

        Check.sentence("WALKER: in LIGHT. CHILD: as WALKER. GUIDE: always");
        x = Check.row(0, 0, 0);
        x.bright(1);
        int[] kinds = {0, 2, 3};
        for (int kind : kinds) {
            x.turn(1, kind);
            x.turn(2, kind);
            Check.due("the last in LIGHT, kind " + kind, x.of(1, 6), 1);
            Check.due("the first out of it, kind " + kind, x.of(2, 6), kind == 3 ? 1 : 0);
        }
        x.lantern(-1);
        Check.due("a GUIDE without a lantern", x.of(2, 6), 1);
    }

    /** Whether the first of two, being so, says the word on in the next STEP. */
    private static int saysOn(int kind, int nerve, int heard, int lantern, int roots) {
        OneLantern x = Check.row(kind, 0);
        x.set(0, 4, nerve);
        x.set(0, 2, heard);
        x.lantern(lantern);
        x.roots(roots);
        x.steps(1);
        return x.of(1, 2);
    }

    private static void says() {
        Check.sentence("SAYS .. WALKER: if it stumbled in this STEP, or SEES a root AT which it is");
        Check.due("stumbled", saysOn(0, 50, 0, -1, 2), 1);
        Check.due("sees", saysOn(0, 50, 0, 0, 2), 1);
        Check.due("sees, but no root is there", saysOn(0, 50, 0, 0, 0), 0);
        Check.due("heard alone", saysOn(0, 50, 1, 0, 0), 0);
        Check.due("heard, and so no fall at the root", saysOn(0, 50, 1, -1, 2), 0);

        Check.sentence("TALL: as WALKER, or if it HEARD (in the STEP before)");
        Check.due("stumbled", saysOn(1, 50, 0, -1, 2), 1);
        Check.due("sees", saysOn(1, 50, 0, 0, 2), 1);
        Check.due("heard", saysOn(1, 50, 1, -1, 0), 1);
        Check.due("nothing", saysOn(1, 50, 0, -1, 0), 0);

        Check.sentence("CHILD: if it stumbled in this STEP");
        Check.due("stumbled", saysOn(2, 50, 0, -1, 2), 1);
        Check.due("sees", saysOn(2, 50, 0, 0, 2), 0);
        Check.due("heard", saysOn(2, 50, 1, -1, 0), 0);

        Check.sentence("GUIDE: as WALKER (SAYS)");
        Check.due("sees in the dark", saysOn(3, 50, 0, -1, 2), 1);
        Check.due("no root is there", saysOn(3, 50, 0, -1, 0), 0);
        Check.due("heard", saysOn(3, 50, 1, -1, 0), 0);

        Check.sentence("PORTER: as TALL, but not with NERVE below 20");
        Check.due("heard, 20 then", saysOn(4, 19, 1, -1, 0), 1);
        Check.due("heard, 19 then", saysOn(4, 18, 1, -1, 0), 0);
        Check.due("stumbled, 20 then", saysOn(4, 30, 0, -1, 2), 1);
        Check.due("stumbled, 19 then", saysOn(4, 29, 0, -1, 2), 0);
        Check.due("sees, 20 then", saysOn(4, 19, 0, 1, 2), 1);
        Check.due("sees, 19 then", saysOn(4, 18, 0, 1, 2), 0);

        Check.sentence("SLEEPY: never");
        Check.due("stumbled", saysOn(5, 99, 0, -1, 2), 0);
        Check.due("sees", saysOn(5, 99, 0, 0, 2), 0);
        Check.due("heard", saysOn(5, 99, 1, -1, 0), 0);
    }

    /** STUMBLED of one that HEARD, with such a NERVE, and comes to a root in the dark. */
    private static int fallsWarned(int kind, int nerve) {
        OneLantern x = Check.dark(2, kind);
        x.set(0, 2, 1);
        x.set(0, 4, nerve);
        return x.steps(1);
    }

    private static void heeds() {
        Check.sentence("HEEDS .. WALKER: if NERVE is 30 or more. TALL, GUIDE: as WALKER. PORTER: as TALL");
        for (int kind : new int[] {0, 1, 3, 4}) {
            OneLantern x = Check.row(kind);
            x.set(0, 4, 30);
            Check.due("kind " + kind + " with 30", x.of(0, 7), 1);
            x.set(0, 4, 29);
            Check.due("kind " + kind + " with 29", x.of(0, 7), 0);
        }
        for (int kind : new int[] {0, 1, 4}) {
            Check.due("kind " + kind + " falls with 30", fallsWarned(kind, 30), 0);
            Check.due("kind " + kind + " falls with 29", fallsWarned(kind, 29), 1);
        }
        Check.sentence("HEEDS .. CHILD: yes. SLEEPY: no");
        Check.due("a CHILD with 0", fallsWarned(2, 0), 0);
        Check.due("a SLEEPY one with 99", fallsWarned(5, 99), 1);
        OneLantern x = Check.row(2, 5);
        x.set(0, 4, 0);
        x.set(1, 4, 99);
        Check.due("a CHILD with 0 heeds", x.of(0, 7), 1);
        Check.due("a SLEEPY one with 99 heeds", x.of(1, 7), 0);
    }

    private static void lightIsNoMoreThanBright() {
        Check.sentence("LIGHT: .. no more than BRIGHT places before or behind that one");
        OneLantern x = row8();
        x.lantern(4);
        x.bright(3);
        Check.due("3 before, 3 behind", x.now(4), 0b11111110);
        x.bright(2);
        Check.due("2 before, 2 behind", x.now(4), 0b01111100);
        x.bright(0);
        Check.due("its own place alone", x.now(4), 0b00010000);
    }

    private static void lightBehindIsShaded() {
        Check.sentence("behind, what all those SHADE that are between .. comes off BRIGHT first");
        OneLantern x = Check.row(0, 0, 1, 4, 1, 0, 0, 0);
        x.lantern(1);
        int[] bright = {0, 1, 2, 3, 4, 5, 6, 7, 8, 9};
        // place 2 needs 1, 3 needs 2 and 1, 4 needs 3 and 3, 5 needs 4 and 4, 6 needs 5 and 4, 7 more than 9
        int[] lit = {0b10, 0b111, 0b111, 0b1111, 0b1111, 0b1111, 0b11111, 0b11111, 0b111111, 0b1111111};
        for (int b : bright) {
            x.bright(b);
            Check.due("lit with " + b, x.now(4), lit[b]);
        }
        x = Check.row(0, 0, 4, 4, 4, 4, 4, 0);
        x.lantern(1);
        x.bright(9);
        Check.due("more shade than BRIGHT", x.now(4), 0b11111);
        x.bright(0);
        Check.due("no BRIGHT to come off", x.now(4), 0b10);
    }

    private static void shadeBetweenAlone() {
        Check.sentence("that are between (not the lantern's own place, nor its own)");
        OneLantern x = Check.row(4, 4, 0);
        x.bright(1);
        Check.due("neither its own nor the lantern's", x.now(4), 0b011);
        x.bright(3);
        Check.due("one between is too much", x.now(4), 0b011);
        x.bright(4);
        Check.due("the one between alone", x.now(4), 0b111);
        x = Check.row(0, 4, 4, 4, 0);
        x.lantern(4);
        x.bright(4);
        Check.due("before, nobody shades", x.now(4), 0b11111);
        x.bright(3);
        Check.due("before, 3", x.now(4), 0b11110);
    }

    private static void stepIsOneMoreFirst() {
        Check.sentence("A STEP goes: STEP is 1 more. Then by places: one AT a ROOT ..");
        OneLantern x = Check.dark(1, 0);
        Check.due("the root that it leaves", x.steps(1), 0);
        x.roots(1 << 2);
        Check.due("the root that it comes to", x.steps(1), 1);
        x = Check.row(5);
        x.roots(1 << 2);
        x.steps(1);
        Check.due("it sees before the STEP", x.of(0, 6), 1);
        Check.due("by t as it is in the STEP", x.steps(1), 1);
    }

    private static void wordOfTheStepBefore() {
        Check.sentence("hasn't HEARD (in the STEP before)");
        OneLantern x = Check.dark(Check.ALL_ROOTS, 0, 0);
        Check.due("a word said in this STEP is too late", x.steps(1), 2);
        Check.due("one said in the STEP before is not", x.steps(1), 3);
        Check.due("who falls", x.of(0, 3), 2);
        Check.due("who heeds", x.of(1, 3), 1);
        x = Check.dark(2, 0, 0);
        x.set(0, 4, 39);
        x.set(0, 2, 1);
        Check.due("by NERVE before the STEP", x.steps(1), 0);
        x = Check.dark(2, 0);
        x.set(0, 4, 29);
        x.set(0, 2, 1);
        Check.due("not by NERVE that is 1 more", x.steps(1), 1);
    }

    private static void nerveAsItIsNow() {
        Check.sentence("Then (by NERVE as it is now) it is found out of all who SAYS the word");
        Check.due("19 and 1", saysOn(4, 19, 1, -1, 0), 1);
        Check.due("20 less 10", saysOn(4, 20, 0, -1, 2), 0);
        Check.due("0 and 1", saysOn(4, 0, 1, -1, 0), 0);
    }

    private static void wordGoesOnePlace() {
        Check.sentence("then HEARD is 1 of those at whose place less 1 somebody SAYS it, 0 of all others");
        OneLantern x = Check.dark(0, 0, 1, 1, 1, 1, 1, 1, 1);
        x.set(1, 2, 1);
        for (int place = 2; place <= 7; place++) {
            x.steps(1);
            Check.due("it has come to " + place, x.now(6), 1 << place);
        }
        x.steps(1);
        Check.due("nobody is behind the last", x.now(6), 0);
        x = Check.dark(0, 1, 1, 1);
        x.set(0, 2, 1);
        x.set(1, 2, 1);
        x.set(2, 2, 1);
        x.steps(1);
        Check.due("nobody is before the first", x.now(6), 0b110);
    }

    private static void tapeAtMost() {
        Check.sentence("THE TAPE (bytes, at most 120)");
        OneLantern x = new OneLantern();
        Check.due("119", Check.feed(x, Check.blanks(119)), 119);
        Check.due("120", x.feed(' ', 1), 120);
        Check.due("121", x.feed(' ', 1), Check.FULL);
        Check.due("it has", x.count(1), 120);
    }

    private static void aheadChangesNothing() {
        Check.sentence("AHEAD: n STEPS go on with all as it is; nothing changes");
        OneLantern once = Check.camp();
        Check.keeps("on(5, 300, 1)", Check::camp, x -> x.on(5, 300, 1), once.on(5, 300, 1));
        Check.keeps("falls(300)", Check::camp, x -> x.falls(300), once.falls(300));
        Check.keeps("trips(0)", Check::camp, x -> x.trips(5), once.trips(5));
        Check.keeps("hears(1)", Check::camp, x -> x.hears(1), once.hears(1));
        Check.keeps("carry(100)", Check::camp, x -> x.carry(100), once.carry(100));
        Check.keeps("order(100)", Check::camp, x -> x.order(100), once.order(100));
        Check.keeps("kind(5, 100)", Check::camp, x -> x.kind(5, 100), once.kind(5, 100));
        Check.keeps("least(100, 99999)", Check::camp, x -> x.least(100, 99999), once.least(100, 99999));
        Check.keeps("clear(60)", Check::camp, x -> x.clear(60), once.clear(60));
        Check.keeps("nerve(3, 100)", Check::camp, x -> x.nerve(3, 100), once.nerve(3, 100));
        Check.keeps("worst(300)", Check::camp, x -> x.worst(300), once.worst(300));
        Check.keeps("read(0, 5)", Check::camp, x -> x.read(0, 5), once.read(0, 5));
        Check.due("none of these is a finding", once.status(-1), Check.camp().status(-1));
        OneLantern x = late();
        x.steps(199);
        x.lantern(-1);
        // STEP 99999 is PACE 9, so the first root, at 10, is a STEP that the row itself may not go
        Check.due("AHEAD of the last STEP", x.falls(1), 1);
        Check.due("300 STEPS AHEAD of it", x.falls(300), 40);
        Check.due("STEP", x.now(0), 99999);
    }

    private static void sheetsAtFirstAndAtMost() {
        Check.sentence("SHEETS 0 to 3 are rows of at most 40 numbers of 8, 16 or 64 bits, or MISSING (at first)");
        OneLantern x = new OneLantern();
        for (int s = 0; s <= 3; s++) {
            Check.due("sheet " + s + " at first", x.lays(s), Check.MISSING);
            Check.due("sheet " + s + " of 40", x.sheet(s, 64, 40), 40);
            Check.due("its last number", x.write(s, 39, 1), 0);
            Check.due("a 41st number", x.write(s, 40, 1), Check.BEYOND);
            Check.due("sheet " + s + " of 41", x.sheet(s, 64, 41), Check.BEYOND);
        }
        Check.due("sheet -1", x.lays(-1), Check.BEYOND);
        Check.due("sheet 4", x.lays(4), Check.BEYOND);
    }
}
