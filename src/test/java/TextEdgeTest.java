/** The edges of the TAPE, of a TEXT and of its FAULTS: Terms, section 4, and promises 1 to 4. */
public final class TextEdgeTest extends Due {
    private static final String FIVE = "a->b*b->c*c->d*d->e*e->a";
    private static final String SIX = "a=b*a!=b*0=a*c=d*d=e*e!=a";
    private static final String ALL_SIGNS = "a->b,c*ls(a,b)*tree(0)*a=b*a!=b|-emp";
    /** Where each sign and word of ALL_SIGNS begins. */
    private static final int[] BEGINS = {0, 1, 3, 4, 5, 6, 7, 9, 10, 11, 12, 13, 14, 15, 19, 20, 21, 22, 23, 24, 25,
        26, 27, 28, 30, 31, 33};

    public static void main(String[] args) {
        variables();
        mostParts();
        mostClaims();
        longestText();
        sideOfNothing();
        variableMissing();
        everyByteAsVariable();
        everyByteAsSign();
        blankBetween();
        blankInside();
        otherBlanks();
        endsTooEarly();
        wordAsItStands();
        firstFault();
        faultTwoAtItsItem();
        newObject();
        tapeFull();
        tapeBytes();
        textOfSome();
        textRefused();
        faultLeavesAll();
        faultPlace();
        end();
    }

    static String blanks(int n) {
        return " ".repeat(n);
    }

    static void variables() {
        says("VARIABLES: 0 (nothing), a to e (1 to 5), and, in proofs, fresh ones (6 to 20).");
        String letters = "0abcde";
        for (int v = 0; v < letters.length(); v++) {
            int number = v;
            HeapJudge judge = of(letters.charAt(v) + "->" + letters.charAt(v) + "|-emp");
            due("x " + letters.charAt(v), () -> judge.part(0, 0, 1), number);
            due("y " + letters.charAt(v), () -> judge.part(0, 0, 2), number);
        }
        dueRead("f->a|-emp", -9, 0);
        dueRead("`->a|-emp", -9, 0);
        dueRead("1->a|-emp", -9, 0);
        dueRead("/->a|-emp", -9, 0);
        dueRead("6->a|-emp", -9, 0);
    }

    static void mostParts() {
        says("A SIDE: PARTS (at most 5, in order), and CLAIMS (at most 6, in order): x = y, x != y.");
        dueRead(FIVE + "|-emp", 5, NONE);
        dueRead("emp|-" + FIVE, 5, NONE);
        dueRead(FIVE + "|-" + FIVE, 10, NONE);
        dueRead("tree(a)*tree(a)*tree(a)*tree(a)*tree(a)|-ls(0,0)*ls(0,0)*ls(0,0)*ls(0,0)*ls(0,0)", 10, NONE);
        HeapJudge judge = of("e->a*tree(d)*ls(c,0)*b->a,b*a->e|-emp");
        dueSides("in order", judge, "e->a*tree(d)*ls(c,0)*b->a,b*a->e|-emp");
        says("2 a sixth PART, a seventh CLAIM of a SIDE");
        String[] sixth = {"a->0", "a->0,0", "ls(a,0)", "tree(a)"};
        for (String part : sixth) {
            dueRead(FIVE + "*" + part + "|-emp", -8, 25);
            dueRead("emp|-" + FIVE + "*" + part, -8, 30);
            dueRead(FIVE + "|-" + FIVE + "*" + part, -8, 51);
        }
        dueRead("a=b*a->b*a=b*b->c*a=b*c->d*a=b*d->e*a=b*e->a*a=b|-emp", 5, NONE);
        dueRead("a=b*a->b*a=b*b->c*a=b*c->d*a=b*d->e*a=b*e->a*a=b*0->0|-emp", -8, 49);
    }

    static void mostClaims() {
        says("CLAIMS (at most 6, in order): x = y, x != y");
        dueRead(SIX + "|-emp", 0, NONE);
        dueRead("emp|-" + SIX, 0, NONE);
        dueRead(SIX + "|-" + SIX, 0, NONE);
        HeapJudge judge = of("e=a*d!=0*0=c*c!=b*b=b*a!=e|-emp");
        dueSides("in order", judge, "e=a*d!=0*0=c*c!=b*b=b*a!=e|-emp");
        says("a seventh CLAIM of a SIDE");
        dueRead(SIX + "*a=b|-emp", -8, 26);
        dueRead(SIX + "*a!=b|-emp", -8, 26);
        dueRead("emp|-" + SIX + "*a=b", -8, 31);
        dueRead(SIX + "|-" + SIX + "*0!=0", -8, 53);
        dueRead("0=0*0=0*0=0*0=0*0=0*0=0|-emp", 0, NONE);
        dueRead("0=0*0=0*0=0*0=0*0=0*0=0*0=0|-emp", -8, 24);
        dueRead(FIVE + "*" + SIX + "|-" + FIVE + "*" + SIX, 10, NONE);
        dueRead(FIVE + "*" + SIX + "|-" + FIVE + "*" + SIX + "*a->b", -8, 103);
        dueRead(FIVE + "*" + SIX + "|-" + FIVE + "*" + SIX + "*a=b", -8, 103);
    }

    static void longestText() {
        says("A TEXT has up to 200 bytes");
        dueRead(blanks(192) + "emp|-emp", 0, NONE);
        dueRead(blanks(192) + "emp|-a=b", 0, NONE);
        dueRead(blanks(191) + "emp|-a->b", 1, NONE);
        dueRead(blanks(90) + "emp" + blanks(90) + "|-" + blanks(12) + "a=b", 0, NONE);
    }

    static void sideOfNothing() {
        says("SIDE: \"emp\" | ITEM { \"*\" ITEM }");
        dueRead("|-emp", -9, 0);
        dueRead("emp|-", -9, 5);
        dueRead("  |-emp", -9, 2);
        dueRead("emp|-  ", -9, 7);
        dueRead("emp*emp|-emp", -9, 3);
        dueRead("emp*a=b|-emp", -9, 3);
        dueRead("a=b*emp|-emp", -9, 4);
        dueRead("a=b*|-emp", -9, 4);
        dueRead("*a=b|-emp", -9, 0);
        dueRead("a=b**a=b|-emp", -9, 4);
        dueRead("emp|-a=b*", -9, 9);
        dueRead("emp", -9, 3);
        dueRead("emp|-emp|-emp", -9, 8);
        dueRead("emp|-emp*a=b", -9, 8);
        dueRead("a->b,c,d|-emp", -9, 6);
        dueRead("tree(a,b)|-emp", -9, 6);
        dueRead("ls(a)|-emp", -9, 4);
        dueRead("ls(a,b,c)|-emp", -9, 6);
        dueRead("ls()|-emp", -9, 3);
        dueRead("tree()|-emp", -9, 5);
        dueRead("a|-emp", -9, 1);
        dueRead("a=b=c|-emp", -9, 3);
    }

    /** What is behind the missing VARIABLE could stand there without it. */
    static void variableMissing() {
        says("ITEM: V \"->\" V [ \",\" V ] | \"ls\" \"(\" V \",\" V \")\" | \"tree\" \"(\" V \")\" | V \"=\" V | V \"!=\" V.");
        dueRead("a->|-emp", -9, 3);
        dueRead("a->*b->c|-emp", -9, 3);
        dueRead("a->,b|-emp", -9, 3);
        dueRead("a->b,|-emp", -9, 5);
        dueRead("a->b,*b->c|-emp", -9, 5);
        dueRead("a=|-emp", -9, 2);
        dueRead("a=*b=c|-emp", -9, 2);
        dueRead("a!=|-emp", -9, 3);
        dueRead("ls(,b)|-emp", -9, 3);
        dueRead("ls(a,)|-emp", -9, 5);
        dueRead("ls(ab)|-emp", -9, 3);
        dueRead("ls(a,b|-emp", -9, 6);
        dueRead("lsa,b)|-emp", -9, 0);
        dueRead("ls a,b)|-emp", -9, 3);
        dueRead("tree()|-emp", -9, 5);
        dueRead("tree(a|-emp", -9, 6);
        dueRead("tree a)|-emp", -9, 5);
        dueRead("->b|-emp", -9, 0);
        dueRead("=b|-emp", -9, 0);
        dueRead("(a,b)|-emp", -9, 0);
        dueRead("emp|-a->", -9, 8);
        dueRead("emp|-a->b,", -9, 10);
    }

    /** A byte at a place where only a VARIABLE can stand. */
    static void everyByteAsVariable() {
        says("V: a small letter a to e alone, or 0.");
        for (int sign = 0; sign < 256; sign++) {
            boolean right = sign >= 'a' && sign <= 'e' || sign == '0';
            dueRead((char) sign + "=0|-emp", right ? 0 : -9, right ? NONE : sign == ' ' ? 1 : 0);
            dueRead("emp|-0=" + (char) sign, right ? 0 : -9, right ? NONE : sign == ' ' ? 8 : 7);
        }
        dueRead("ab=0|-emp", -9, 0);
        dueRead("0=ab|-emp", -9, 2);
        dueRead("ee=0|-emp", -9, 0);
        dueRead("0a=0|-emp", -9, 1);
        dueRead("a0=0|-emp", -9, 1);
        dueRead("00=0|-emp", -9, 1);
        dueRead("emp|-0=0a", -9, 8);
        dueRead("emp|-0=a0", -9, 8);
        dueRead("A=0|-emp", -9, 0);
    }

    /** A byte where a sign must stand: small letters make another word of the word ahead. */
    static void everyByteAsSign() {
        says("1 what can't stand there (at the length, if the text ends too early; of a word of small letters, as"
                + " many as stand there, the word)");
        for (int sign = 0; sign < 256; sign++) {
            char put = (char) sign;
            boolean small = sign >= 'a' && sign <= 'z';
            boolean blank = sign == ' ';
            dueRead("emp" + put + "|-emp", blank ? 0 : -9, blank ? NONE : small ? 0 : 3);
            dueRead("emp|-emp" + put, blank ? 0 : -9, blank ? NONE : small ? 5 : 8);
            dueRead("emp|" + put + "emp", sign == '-' ? 0 : -9, sign == '-' ? NONE : 3);
            dueRead("a" + put + "b|-emp", sign == '=' ? 0 : -9,
                    sign == '=' ? NONE : blank ? 2 : small ? 0 : 1);
            dueRead("a-" + put + "b|-emp", sign == '>' ? 1 : -9, sign == '>' ? NONE : 1);
            dueRead("a!" + put + "b|-emp", sign == '=' ? 0 : -9, sign == '=' ? NONE : 1);
            dueRead("tree(a" + put + "|-emp", sign == ')' ? 1 : -9,
                    sign == ')' ? NONE : blank ? 7 : small ? 5 : 6);
        }
    }

    static void blankBetween() {
        says("Blanks (32) may stand ahead of all these signs and words, and at the end.");
        dueRead(ALL_SIGNS, 3, NONE);
        StringBuilder spread = new StringBuilder();
        for (int i = 0; i < BEGINS.length; i++) {
            int end = i + 1 < BEGINS.length ? BEGINS[i + 1] : ALL_SIGNS.length();
            String one = ALL_SIGNS.substring(BEGINS[i], end);
            dueRead(ALL_SIGNS.substring(0, BEGINS[i]) + " " + ALL_SIGNS.substring(BEGINS[i]), 3, NONE);
            dueRead(ALL_SIGNS.substring(0, BEGINS[i]) + blanks(40) + ALL_SIGNS.substring(BEGINS[i]), 3, NONE);
            spread.append("  ").append(one);
        }
        dueRead(spread + "   ", 3, NONE);
        dueRead(ALL_SIGNS + " ", 3, NONE);
        dueRead(ALL_SIGNS + blanks(200 - ALL_SIGNS.length()), 3, NONE);
    }

    static void blankInside() {
        dueRead("a- >b|-emp", -9, 1);
        dueRead("a! =b|-emp", -9, 1);
        dueRead("emp| -emp", -9, 3);
        dueRead("l s(a,b)|-emp", -9, 0);
        dueRead("t ree(a)|-emp", -9, 0);
        dueRead("tre e(a)|-emp", -9, 0);
        dueRead("em p|-emp", -9, 0);
        dueRead("e mp|-emp", -9, 2);
        dueRead("emp|-e mp", -9, 7);
    }

    static void otherBlanks() {
        int[] others = {0, 9, 10, 11, 12, 13, 31, 33, 127, 128, 160, 255};
        for (int other : others) {
            dueRead((char) other + "emp|-emp", -9, 0);
            dueRead("emp|-" + (char) other + "emp", -9, 5);
            dueRead("emp|-emp" + (char) other, -9, 8);
            dueRead("emp|-emp  " + (char) other + " ", -9, 10);
        }
    }

    /** Of a sign or word that is there by half, its first byte; of nothing, the length; e alone is a VARIABLE. */
    static void endsTooEarly() {
        says("at the length, if the text ends too early");
        for (int n = 0; n < ALL_SIGNS.length(); n++) {
            int place = n;
            for (int begin : BEGINS) {
                place = begin < n && n - begin < lengthAt(begin) ? begin : place;
            }
            dueRead(ALL_SIGNS.substring(0, n), -9, n == 34 ? 34 : place);
        }
        for (int begin : BEGINS) {
            dueRead(ALL_SIGNS.substring(0, begin) + "  ", -9, begin + 2);
        }
        dueRead(blanks(200), -9, 200);
        dueRead(blanks(195) + "emp|-", -9, 200);
        dueRead(blanks(193) + "emp|-a=", -9, 200);
        dueRead(blanks(192) + "emp|-a=f", -9, 199);
    }

    static int lengthAt(int begin) {
        for (int i = 0; i + 1 < BEGINS.length; i++) {
            if (BEGINS[i] == begin) {
                return BEGINS[i + 1] - begin;
            }
        }
        return ALL_SIGNS.length() - begin;
    }

    static void wordAsItStands() {
        says("of a word of small letters, as many as stand there, the word");
        dueRead("emp|-tree", -9, 9);
        dueRead("emp|-tre", -9, 5);
        dueRead("emp|-treee(a)", -9, 5);
        dueRead("emp|-ls", -9, 7);
        dueRead("emp|-l", -9, 5);
        dueRead("emp|-lsa(a,b)", -9, 5);
        dueRead("emp|-e", -9, 6);
        dueRead("emp|-em", -9, 5);
        dueRead("emp|-empe", -9, 5);
        dueRead("emp|-emp e", -9, 9);
        dueRead("empls(a,b)|-emp", -9, 0);
        dueRead("emp0|-emp", -9, 3);
        dueRead("empA|-emp", -9, 3);
        dueRead("tree0(a)|-emp", -9, 4);
        dueRead("a->ls(a,b)|-emp", -9, 3);
        dueRead("a->emp|-emp", -9, 3);
        dueRead("ls(tree,a)|-emp", -9, 3);
        dueRead("ls(a,ab)|-emp", -9, 5);
        dueRead("emp|-zzzzzzzzzz", -9, 5);
        dueRead("emp|-a->" + "z".repeat(190), -9, 8);
        dueRead("a->b ls(a,b)|-emp", -9, 5);
    }

    static void firstFault() {
        says("FAULTS, the first from the left, at its first byte");
        dueRead("a=?*?=b|-?", -9, 2);
        dueRead(FIVE + "*a->0*a=?|-emp", -8, 25);
        dueRead(FIVE + "*a=?*a->0|-emp", -9, 27);
        dueRead(FIVE + "*a->0*" + SIX + "*a=b|-emp", -8, 25);
        dueRead(SIX + "*a=b*" + FIVE + "*a->b|-emp", -8, 26);
        dueRead(SIX + "*" + FIVE + "*a->b*a=b|-emp", -8, 51);
        dueRead(FIVE + "*a->0|-?", -8, 25);
        dueRead(FIVE + "|-?*" + FIVE + "*a->0", -9, 26);
    }

    static void faultTwoAtItsItem() {
        says("(at its ITEM, behind its last byte)");
        dueRead(FIVE + "*   a->0|-emp", -8, 28);
        dueRead(FIVE + "  *  ls(a,b)|-emp", -8, 29);
        dueRead(FIVE + "*ls(a,b", -9, 31);
        dueRead(FIVE + "*ls(a,?)|-emp", -9, 30);
        dueRead(FIVE + "*ls(a,b)", -8, 25);
        dueRead(FIVE + "*ls(a,b)?", -8, 25);
        dueRead(FIVE + "*tree", -9, 29);
        dueRead(FIVE + "*tree(a)", -8, 25);
        dueRead(FIVE + "*a->", -9, 28);
        dueRead(FIVE + "*a->b", -8, 25);
        dueRead(FIVE + "*a->b?", -8, 25);
        dueRead(FIVE + "*a->b,", -9, 30);
        dueRead(FIVE + "*a->b  ,  ?", -9, 34);
        dueRead(FIVE + "*a->b,c", -8, 25);
        dueRead(FIVE + "*a->b,c,d", -8, 25);
        dueRead(FIVE + "*a", -9, 26);
        dueRead(FIVE + "*a=b", -9, 28);
        dueRead(SIX + "*a=", -9, 28);
        dueRead(SIX + "*a=bb", -9, 28);
        dueRead(SIX + "*  a=b", -8, 28);
        dueRead(SIX + "*a=b?", -8, 26);
        dueRead(SIX + "*a!=", -9, 29);
    }

    static void newObject() {
        says("`HeapJudge()`: emp |- emp.");
        HeapJudge judge = new HeapJudge();
        dueSides("both sides", judge, "emp|-emp");
        due("the tape", () -> judge.told(5), 0);
        due("acts", () -> judge.told(6), 0);
        due("undo", judge::undo, NONE);
        due("fault", judge::fault, NONE);
        due("text of the empty tape", () -> judge.text(0), -9);
        due("its fault", judge::fault, 0);
        dueSides("both sides still", judge, "emp|-emp");
        due("another object", () -> new HeapJudge().told(5), 0);
    }

    static void tapeFull() {
        says("NONE, doing nothing, if there would be more than 200");
        HeapJudge judge = new HeapJudge();
        put(judge, blanks(192) + "emp|-a=b");
        due("full", () -> judge.told(5), 200);
        due("feed when full", () -> judge.feed(0, 0, 0, 0, 0), NONE);
        due("feed when full again", () -> judge.feed(-1, -1, -1, -1, -1), NONE);
        due("still full", () -> judge.told(5), 200);
        due("nothing refused is counted", () -> judge.status(0) + judge.status(1), 0);
        due("all its bytes are as they were", () -> judge.text(200), 0);
        dueSides("read", judge, "emp|-a=b");
        due("empty then", () -> judge.feed(0x20202020, 0x20202020, 0x20202020, 0x20202020, 0x20202020), 20);
        HeapJudge almost = new HeapJudge();
        put(almost, blanks(180));
        due("180", () -> almost.told(5), 180);
        due("the tenth feed", () -> almost.feed(0, 0, 0, 0, 0), 200);
        due("the eleventh feed", () -> almost.feed(0, 0, 0, 0, 0), NONE);
    }

    static void tapeBytes() {
        says("Twenty bytes come on the TAPE, of each number the highest first: how many there are");
        HeapJudge judge = new HeapJudge();
        due("feed", () -> judge.feed(0x656d707c, 0x2d202061, 0x20212020, 0x20202020, 0x20202020), 20);
        due("a sign that is not there", () -> judge.text(20), -9);
        due("in the tenth byte", judge::fault, 9);
        for (int i = 0; i < 20; i++) {
            int[] numbers = {0x20202020, 0x20202020, 0x20202020, 0x20202020, 0x20202020};
            int place = i;
            numbers[i / 4] = numbers[i / 4] & ~(0xff << (24 - 8 * (i % 4))) | 0x80 << (24 - 8 * (i % 4));
            HeapJudge one = new HeapJudge();
            one.feed(numbers[0], numbers[1], numbers[2], numbers[3], numbers[4]);
            due("byte 128 at " + i, () -> one.text(20), -9);
            due("its place", one::fault, place);
        }
    }

    static void textOfSome() {
        says("The first n bytes of the TAPE (empty then) tell both SIDES: how many PARTS both have together");
        HeapJudge judge = new HeapJudge();
        put(judge, "a->b|-ls(a,b)*a->c,d*");
        due("40 bytes", () -> judge.told(5), 40);
        due("twenty of them", () -> judge.text(20), 3);
        dueSides("read", judge, "a->b|-ls(a,b)*a->c,d");
        due("the others are gone, too", () -> judge.told(5), 0);
        due("none is left", () -> judge.text(1), ILLEGAL);
        put(judge, "emp|-tree(a)");
        due("from the first byte on", () -> judge.text(12), 1);
        dueSides("read again", judge, "emp|-tree(a)");
        put(judge, "emp|-emp");
        due("none of them", () -> judge.text(0), -9);
        due("at 0", judge::fault, 0);
        due("empty then, too", () -> judge.told(5), 0);
    }

    static void textRefused() {
        says("IllegalArgumentException: n is not 0 to the TAPE's bytes (it stays; so below).");
        HeapJudge judge = of("a->b*a=b|-ls(a,b)");
        tell(judge, "emp?|-emp");
        put(judge, "emp|-emp");
        int[] outside = {-1, -2, 21, 22, 40, 200, 201};
        int times = 0;
        for (int n : outside) {
            due("text " + n, () -> judge.text(n), ILLEGAL);
            times++;
        }
        for (int n : FAR) {
            due("text " + n, () -> judge.text(n), ILLEGAL);
            times++;
        }
        due("the tape stays", () -> judge.told(5), 20);
        dueSides("the sides stay", judge, "a->b*a=b|-ls(a,b)");
        due("the fault stays", judge::fault, 3);
        due("acts", () -> judge.told(6), 1);
        due("refused so often", () -> judge.status(1), times);
        due("all twenty", () -> judge.text(20), -9);
        due("their fault", judge::fault, 5);
    }

    static void faultLeavesAll() {
        says("or the FAULT less 10 (all but the TAPE stays)");
        HeapJudge judge = of("a->b*a=b|-ls(a,b)*b!=c");
        judge.turn();
        String before = sides(judge);
        String[] faults = {"", "emp", "emp|-c->d*?", FIVE + "*a->b|-emp", "emp|-" + SIX + "*a=b"};
        int[] answers = {-9, -9, -9, -8, -8};
        for (int i = 0; i < faults.length; i++) {
            String text = faults[i];
            due("text " + text, () -> tell(judge, text), answers[i]);
            dueSides("sides after " + text, judge, before);
            due("tape after " + text, () -> judge.told(5), 0);
            due("acts after " + text, () -> judge.told(6), 2);
        }
        due("no call was refused", () -> judge.status(0) + judge.status(1), 0);
        due("the turn is taken back", judge::undo, 1);
        dueSides("as told", judge, "a->b*a=b|-ls(a,b)*b!=c");
    }

    static void faultPlace() {
        says("The place of the FAULT of the latest text(); NONE without.");
        HeapJudge judge = new HeapJudge();
        due("without any text", judge::fault, NONE);
        tell(judge, "?");
        due("at 0", judge::fault, 0);
        tell(judge, blanks(200));
        due("at 200", judge::fault, 200);
        judge.turn();
        judge.undo();
        put(judge, "emp|-emp");
        due("still", judge::fault, 200);
        answer(() -> judge.text(-1));
        due("of no refused text", judge::fault, 200);
        due("a right one", () -> judge.text(8), 0);
        due("none", judge::fault, NONE);
        answer(() -> judge.text(1));
        due("none still", judge::fault, NONE);
    }
}
