import java.io.IOException;
import java.nio.charset.StandardCharsets;
import java.nio.file.Files;
import java.nio.file.Path;
import java.util.NoSuchElementException;

/** What the tests share: to tell a text, to compare an answer with the one that is due, to end with the right code. */
class Due {
    static final int NONE = HeapJudge.NONE;
    static final String MISSING = "NoSuchElementException";
    static final String ILLEGAL = "IllegalArgumentException";
    /** Numbers far outside of all that can be asked. */
    static final int[] FAR = {Integer.MIN_VALUE, Integer.MIN_VALUE + 1, -1000, 1000, Integer.MAX_VALUE - 1,
        Integer.MAX_VALUE};

    private static final Path DOCUMENT = Path.of("..", "shared", "DOC.md");
    private static String document = null;
    private static String sentence = "";
    private static int wrong = 0;
    private static int compared = 0;

    interface Call {
        long of();
    }

    /** The document's words that the calls behind it are about; they must stand there. */
    static void says(String words) {
        sentence = words;
        if (document == null) {
            document = readDocument();
        }
        if (!document.isEmpty() && !document.contains(words)) {
            fail("the document does not say it");
        }
    }

    private static String readDocument() {
        try {
            return Files.isReadable(DOCUMENT) ? Files.readString(DOCUMENT, StandardCharsets.UTF_8) : "";
        } catch (IOException e) {
            return "";
        }
    }

    static void fail(String what) {
        wrong++;
        System.out.println((sentence.isEmpty() ? "" : "\"" + sentence + "\": ") + what);
    }

    static String answer(Call call) {
        try {
            return "" + call.of();
        } catch (NoSuchElementException e) {
            return MISSING;
        } catch (IllegalArgumentException e) {
            return ILLEGAL;
        }
    }

    static void due(String what, Call call, Object want) {
        dueText(what, answer(call), "" + want);
    }

    static void dueText(String what, String got, String want) {
        compared++;
        if (!got.equals(want)) {
            fail(what + " answered " + got + ", due is " + want);
        }
    }

    static void end() {
        if (wrong != 0) {
            System.out.println(wrong + " of " + compared + " answers are not as due");
            System.exit(1);
        }
        System.out.println("all " + compared + " answers are as due");
    }

    /** Feeds as many twenties of bytes as the text needs, with z behind it. */
    static void put(HeapJudge judge, String text) {
        for (int start = 0; start < text.length(); start += 20) {
            int[] numbers = new int[5];
            for (int i = 0; i < 20; i++) {
                int sign = start + i < text.length() ? text.charAt(start + i) : 'z';
                numbers[i / 4] = numbers[i / 4] << 8 | sign;
            }
            judge.feed(numbers[0], numbers[1], numbers[2], numbers[3], numbers[4]);
        }
    }

    static int tell(HeapJudge judge, String text) {
        put(judge, text);
        return judge.text(text.length());
    }

    static HeapJudge of(String text) {
        HeapJudge judge = new HeapJudge();
        if (tell(judge, text) < 0) {
            fail("the text " + text + " has a fault at " + judge.fault());
        }
        return judge;
    }

    /** What a new object answers to a text, and all that it says of it then. */
    static void dueRead(String text, int answer, int place) {
        HeapJudge judge = new HeapJudge();
        due("text \"" + text + "\"", () -> tell(judge, text), answer);
        due("fault of \"" + text + "\"", judge::fault, place);
        due("tape after \"" + text + "\"", () -> judge.told(5), 0);
        due("acts after \"" + text + "\"", () -> judge.told(6), answer < 0 ? 0 : 1);
    }

    static String steps(HeapJudge judge) {
        StringBuilder all = new StringBuilder();
        for (int k = 0; k < judge.proof(1); k++) {
            all.append(judge.sequent(k, 0));
        }
        return all.toString();
    }

    static void dueSteps(String text, String want, int outcome) {
        HeapJudge judge = of(text);
        dueText("steps of " + text, steps(judge), want);
        due("outcome of " + text, () -> judge.proof(0), outcome);
    }

    static String variable(int number) {
        return number == 0 ? "0" : number <= 5 ? "" + (char) ('a' + number - 1) : "" + number;
    }

    static String written(int kind, int x, int y, int z) {
        switch (kind) {
            case 0:
                return variable(x) + "->" + variable(y);
            case 1:
                return variable(x) + "->" + variable(y) + "," + variable(z);
            case 2:
                return "ls(" + variable(x) + "," + variable(y) + ")";
            default:
                return "tree(" + variable(x) + ")";
        }
    }

    static String joined(String first, String one) {
        return first.isEmpty() ? one : first + "*" + one;
    }

    /** PARTS of a SIDE of a SEQUENT, as a text would tell them; fresh VARIABLES by their numbers. */
    static String sideOf(HeapJudge judge, int k, int side) {
        String all = "";
        for (int i = 0; i < judge.sequent(k, 2 + side); i++) {
            all = joined(all, written(judge.partOf(k, side, i, 0), judge.partOf(k, side, i, 1),
                    judge.partOf(k, side, i, 2), judge.partOf(k, side, i, 3)));
        }
        return all;
    }

    /** PARTS to the left, PARTS to the right, then how many CLAIMS and how many DIFFERS. */
    static void dueSequent(String text, int k, String want) {
        HeapJudge judge = of(text);
        if (k >= judge.proof(1)) {
            fail("there is no sequent " + k + " of " + text);
            return;
        }
        dueText("sequent " + k + " of " + text, sideOf(judge, k, 0) + " |- " + sideOf(judge, k, 1)
                + " " + judge.sequent(k, 4) + " " + judge.sequent(k, 5), want);
    }

    static String leftOver(HeapJudge judge, int i) {
        String all = "";
        for (int k = 0; k < judge.overPart(i, NONE, 0); k++) {
            all = joined(all, written(judge.overPart(i, k, 0), judge.overPart(i, k, 1),
                    judge.overPart(i, k, 2), judge.overPart(i, k, 3)));
        }
        return all;
    }

    static String items(HeapJudge judge, int side) {
        String all = "";
        for (int k = 0; k < judge.told(side); k++) {
            all = joined(all, written(judge.part(side, k, 0), judge.part(side, k, 1), judge.part(side, k, 2),
                    judge.part(side, k, 3)));
        }
        for (int k = 0; k < judge.told(2 + side); k++) {
            all = joined(all, variable(judge.claim(side, k, 1)) + (judge.claim(side, k, 0) == 1 ? "=" : "!=")
                    + variable(judge.claim(side, k, 2)));
        }
        return all.isEmpty() ? "emp" : all;
    }

    /** Both SIDES as a text; PARTS ahead of CLAIMS. */
    static String sides(HeapJudge judge) {
        return items(judge, 0) + "|-" + items(judge, 1);
    }

    static void dueSides(String what, HeapJudge judge, String want) {
        dueText(what, sides(judge), want);
    }
}
