/** The boundary cases of THE TEXT of a NIGHT and of promise 26, a test for each sentence. */
public final class TextEdgesTest {
    public static void main(String[] args) {
        night();
        tokens();
        blanks();
        text();
        kinds();
        roots();
        lantern();
        bright();
        swap();
        faultOfTheFirstToken();
        faultOfNumbers();
        faultOfWords();
        faultOfBytes();
        faultOfTheNinth();
        faultOfTheEnd();
        faultChangesNothing();
        Check.end();
    }

    /** A text that is one: the object behind its night, which told so many items. */
    private static OneLantern told(OneLantern x, String text, int items) {
        Check.due("night of \"" + text + "\"", Check.night(x, text), items);
        Check.due("bytes behind it", x.count(1), 0);
        Check.due("findings", x.status(-1), 0);
        return x;
    }

    /** The text has a FAULT at a place: nothing changes in the scene but that THE TAPE is empty, and it is no finding. */
    private static void fault(Check.Scene scene, String text, int place) {
        OneLantern x = scene.make();
        OneLantern twin = scene.make();
        Check.due("night of \"" + text + "\"", Check.night(x, text), -1 - place);
        for (int which = -1; which <= 6; which++) {
            Check.due("status(" + which + ") behind \"" + text + "\"", x.status(which), twin.status(which));
        }
        Check.same("the night of \"" + text + "\"", x, twin);
    }

    /** Two are there. */
    private static void fault(String text, int place) {
        fault(() -> Check.row(0, 1), text, place);
    }

    private static void night() {
        Check.sentence("Promise 26: THE TAPE is THE TEXT of a NIGHT, whose ITEMS come to what there is, and empty then: how many ITEMS");
        OneLantern x = told(new OneLantern(), "guide", 1);
        Check.due("WALKERS", x.count(0), 1);
        told(x, "walker;walker;walker;walker;walker;walker;tall", 7);
        Check.due("they come to what there is", x.of(0, 0), 3);
        Check.due("the last", x.of(7, 0), 1);
        StringBuilder most = new StringBuilder("root0");
        while (most.length() + 6 <= 120) {
            most.append(";root1");
        }
        told(x, most.toString() + Check.blanks(120 - most.length()), 20);
        Check.due("ROOTS", x.now(1), Check.FIRST_ROOTS | 0b11);
        told(x, Check.blanks(113) + "bright9", 1);
        Check.due("BRIGHT", x.now(3), 9);
        Check.due("of an empty tape", x.night(), -1);
        x.feed(0x3b3b3b3b, 4);
        Check.due("a FAULT", x.night(), -1);
        Check.due("THE TAPE is empty then", x.wipe(), 0);
    }

    private static void tokens() {
        Check.sentence("TOKENS, each as long as can be: WORDS (letters a to z), NUMBERS (digits, 999 at most), SIGN ;");
        OneLantern x = told(new OneLantern(), "guide;lantern0;bright07;root29;clear3", 5);
        Check.due("BRIGHT", x.now(3), 7);
        Check.due("ROOTS", x.now(1), Check.FIRST_ROOTS & ~8 | 1 << 29);
        fault("tallchild", 0);
        fault("tall child", 5);
        x = told(Check.dark(0), "root12", 1);
        Check.due("as long as can be", x.now(1), 1 << 12);
        fault("root1 2", 6);
        fault("swap01", 6);
        told(Check.row(0, 1), "swap0 1", 1);
        fault("bright1root2", 7);
        fault("root 999", 5);
        fault("root 1000", 5);
        fault("walker nerve 999", 13);
        fault("walker nerve 1000", 13);
        fault("999", 0);
        fault("1000", 0);
        told(new OneLantern(), "bright 0000000000000000000000000000000000000000009", 1);
    }

    private static void blanks() {
        Check.sentence("blanks may stand between");
        OneLantern x = told(Check.row(0, 1), "   swap   0   1   ;   tall   nerve   7   ;root5", 3);
        Check.due("NERVE", x.of(2, 4), 7);
        Check.due("the first", x.of(0, 0), 1);
        told(new OneLantern(), " guide ", 1);
        fault("wal ker", 0);
        fault("walker nerve 1 0", 15);
    }

    private static void text() {
        Check.sentence("TEXT: ITEM { ; ITEM }");
        fault("", 0);
        fault(";", 0);
        fault("tall;", 5);
        fault("tall;;tall", 5);
        fault(";tall", 0);
        fault("tall;tall;", 10);
        fault("root 1;root 2 root 3", 14);
    }

    private static void kinds() {
        Check.sentence("the name of a KIND (walker tall child guide porter sleepy), perhaps nerve and a NUMBER (0 to 99): one more, last in THE ROW");
        OneLantern x = told(new OneLantern(), "walker;tall;child;guide;porter;sleepy", 6);
        for (int kind = 0; kind < 6; kind++) {
            Check.due("the kind", x.of(kind, 0), kind);
            Check.due("NERVE", x.of(kind, 4), 50);
        }
        told(x, "sleepy nerve 0;walker nerve 99", 2);
        Check.due("NERVE 0", x.of(6, 4), 0);
        Check.due("NERVE 99", x.of(7, 4), 99);
        Check.due("HEARD and STUMBLED", x.of(7, 2) + x.of(7, 3), 0);
        fault("tall nerve 100", 11);
        fault("tall nerve", 10);
        fault("tall nerve;", 10);
        fault("tall nerve tall", 11);
        fault("tall nerve 5 5", 13);
        fault("tall nerve 5 nerve 5", 13);
        fault("nerve 5", 0);
        fault("root 5 nerve 5", 7);
    }

    private static void roots() {
        Check.sentence("root or clear, a NUMBER (a PACE): one is there, or none");
        OneLantern x = told(Check.dark(0), "root 0;root 29", 2);
        Check.due("the first and the last PACE", x.now(1), 1 | 1 << 29);
        told(x, "root 29", 1);
        Check.due("one is there already", x.now(1), 1 | 1 << 29);
        told(x, "clear 29;clear 0;clear 0", 3);
        Check.due("none is there already", x.now(1), 0);
        fault("root 30", 5);
        fault("clear 30", 6);
        fault("root", 4);
        fault("clear;", 5);
        fault("root walker", 5);
        fault("root -1", 5);
    }

    private static void lantern() {
        Check.sentence("lantern and a NUMBER (a place there by then)");
        OneLantern x = told(Check.row(0, 0), "lantern 1", 1);
        Check.due("the last place", x.now(2), 1);
        told(x, "lantern 0", 1);
        Check.due("the first place", x.now(2), 0);
        told(x, "tall;lantern 2", 2);
        Check.due("one that is there by then", x.now(2), 2);
        told(x, "tall;tall;tall;tall;tall;lantern 7", 6);
        Check.due("the last of eight", x.now(2), 7);
        fault("lantern 2", 8);
        fault("lantern 2;tall", 8);
        fault("tall;lantern 3", 13);
        fault("lantern", 7);
        fault("lantern tall", 8);
        fault(OneLantern::new, "lantern 0", 8);
        fault(Check::fullOfGuides, "lantern 8", 8);
    }

    private static void bright() {
        Check.sentence("bright and a NUMBER (0 to 9)");
        OneLantern x = told(new OneLantern(), "bright 0", 1);
        Check.due("0", x.now(3), 0);
        told(x, "bright 9", 1);
        Check.due("9", x.now(3), 9);
        fault("bright 10", 7);
        fault("bright", 6);
        fault("bright ;", 7);
    }

    private static void swap() {
        Check.sentence("swap, two NUMBERS (places there by then, unlike): these two change places");
        OneLantern x = Check.row(1, 2);
        x.set(0, 2, 1);
        x.set(0, 3, 9999);
        x.set(0, 4, 3);
        told(x, "swap 0 1", 1);
        Check.due("the kind", x.of(1, 0), 1);
        Check.due("HEARD", x.of(1, 2), 1);
        Check.due("STUMBLED", x.of(1, 3), 9999);
        Check.due("NERVE", x.of(1, 4), 3);
        Check.due("the lantern stays", x.now(2), 0);
        told(x, "guide;swap 2 0", 2);
        Check.due("one that is there by then", x.of(0, 0), 3);
        fault("swap 0 0", 7);
        fault("swap 1 1", 7);
        fault("swap 2 2", 5);
        fault("swap 0 2", 7);
        fault("swap 2 0", 5);
        fault("tall;swap 0 3", 12);
        fault("swap", 4);
        fault("swap 0", 6);
        fault("swap 0;", 6);
        fault("swap 0 1 1", 9);
        fault(OneLantern::new, "swap 0 1", 5);
        fault(() -> Check.row(0), "swap 0 1", 7);
        fault(Check::fullOfGuides, "swap 0 8", 7);
        fault(Check::fullOfGuides, "swap 8 0", 5);
        told(Check.fullOfGuides(), "swap 0 7", 1);
    }

    private static void faultOfTheFirstToken() {
        Check.sentence("FAULT: the place (from 0) of the first byte of the first TOKEN that can't stand there");
        fault("x;y;z", 0);
        fault("   x", 3);
        fault("tall  ;  x  ; y", 9);
        fault("tall;root 30;bright 10", 10);
        fault(Check.blanks(119) + "x", 119);
        fault("root 5" + Check.blanks(113) + ";", 120);
        fault("root 5" + Check.blanks(112) + ";x", 119);
    }

    private static void faultOfNumbers() {
        Check.sentence("(a NUMBER that may not be ..)");
        fault("root 31", 5);
        fault("bright 4294967296", 7);
        fault("bright 4294967299", 7);
        fault("root 18446744073709551617", 5);
        fault("bright " + "9".repeat(113), 7);
        fault("5", 0);
        fault("tall;5", 5);
        fault("tall 5", 5);
    }

    private static void faultOfWords() {
        Check.sentence("(another WORD ..)");
        String[] words = {"walkers", "walke", "talk", "t", "childe", "guid", "nerve", "roots", "roo", "cleer", "lanterns", "brigh", "swop",
            "wolker", "walkerz", "tallz", "walkera", "z", "a", "zall"};
        for (String word : words) {
            fault(word + " 1", 0);
            fault("tall;" + word + " 1", 5);
        }
        fault("tall nerves 5", 5);
        fault("root root 5", 5);
        fault("swap 0 tall", 7);
    }

    private static void faultOfBytes() {
        Check.sentence("(.. a byte that begins no TOKEN ..)");
        int[] bytes = {0, 1, 9, 10, 13, 31, 33, '/', ':', '<', '@', 'A', 'Z', '[', '`', '{', 127, 128, 160, 255};
        for (int b : bytes) {
            char sign = (char) b;
            fault(sign + "tall", 0);
            fault("tall" + sign, 4);
            fault("root " + sign + "5", 5);
            fault("root 5" + sign, 6);
            fault("tall " + sign + ";", 5);
        }
    }

    private static void faultOfTheNinth() {
        Check.sentence("(.. the name of a KIND for a 9th: its own)");
        fault(Check::fullOfGuides, "tall", 0);
        fault(Check::fullOfGuides, "root 5; tall nerve 100", 8);
        fault("tall;tall;tall;tall;tall;tall; child nerve 5", 31);
        told(Check.row(0, 1), "tall;tall;tall;tall;tall;tall", 6);
        fault(OneLantern::new, "tall;tall;tall;tall;tall;tall;tall;tall;x", 40);
        fault(OneLantern::new, "tall;tall;tall;tall;tall;tall;tall;tall;guide", 40);
    }

    private static void faultOfTheEnd() {
        Check.sentence("or how many bytes there are if it ends too early");
        fault("", 0);
        fault(" ", 1);
        fault(Check.blanks(120), 120);
        fault("root", 4);
        fault("root  ", 6);
        fault("tall nerve ", 11);
        fault("swap 1 ", 7);
        fault("tall ; ", 7);
        fault(Check.blanks(115) + "tall;", 120);
        fault(Check.blanks(116) + "root", 120);
    }

    private static void faultChangesNothing() {
        Check.sentence("Promise 26: With a FAULT: -1 less its place (nothing changes but that THE TAPE is empty; no finding)");
        fault(Check::emptyTapeCamp, "guide nerve 3;root 7;clear 0;lantern 6;bright 1;swap 0 6;x", 57);
        fault(Check::emptyTapeCamp, "guide;sleepy;child", 13);
        fault(Check::emptyTapeCamp, "swap 0 5;bright 0;lantern 0;swap 3 3", 35);
        fault(Check::emptyTapeCamp, "root 1;root 2;", 14);
    }
}
