/** The edges of what changes SIDES and of what tells them: promises 5 to 11 and 21, and section 4. */
public final class ActEdgeTest extends Due {
    private static final String FULL = "a->b*b->c,d*ls(c,d)*tree(d)*e->0*a=b*b!=c*c=d*d!=e*e=0*0!=a";
    private static final String OTHER = "tree(e)*ls(d,0)*c->0,e*b->b*a->a*e!=d*d=c*c!=b*b=a*a!=0*0=0";
    private static final int[] NO_SIDE = {-1, 2, 3, Integer.MIN_VALUE, Integer.MAX_VALUE};

    public static void main(String[] args) {
        turn();
        turnOfFull();
        drop();
        dropAll();
        dropRefused();
        forget();
        forgetAll();
        forgetRefused();
        undoOfEach();
        undoNone();
        undoTen();
        undoAfterMany();
        undoAndOn();
        noActs();
        told();
        toldVariables();
        toldRefused();
        part();
        partRefused();
        claim();
        claimRefused();
        status();
        statusOfEach();
        askedNothingChanges();
        oneAfterTheOther();
        calls512();
        end();
    }

    static void turn() {
        says("SIDES are exchanged: how many PARTS both have together.");
        HeapJudge judge = new HeapJudge();
        due("turn of nothing", judge::turn, 0);
        dueSides("still nothing", judge, "emp|-emp");
        due("it is an act all the same", () -> judge.told(6), 1);
        HeapJudge one = of("emp|-a->b*c=d");
        due("turn", one::turn, 1);
        dueSides("turned", one, "a->b*c=d|-emp");
        due("turn back", one::turn, 1);
        dueSides("turned back", one, "emp|-a->b*c=d");
        due("claims alone", () -> of("a=b|-c=d").turn(), 0);
    }

    static void turnOfFull() {
        HeapJudge judge = of(FULL + "|-" + OTHER);
        due("turn of full sides", judge::turn, 10);
        dueSides("turned", judge, OTHER + "|-" + FULL);
        judge.drop(0, 0);
        dueSides("each side is its own", judge, OTHER.substring(8) + "|-" + FULL);
    }

    static void drop() {
        says("PART k of a SIDE (0 left, 1 right) goes: how many it has then.");
        for (int side = 0; side < 2; side++) {
            for (int k = 0; k < 5; k++) {
                HeapJudge judge = of(FULL + "|-" + OTHER);
                int where = side;
                int which = k;
                due("drop " + side + " " + k, () -> judge.drop(where, which), 4);
                String left = side == 0 ? without(FULL, k) : FULL;
                String right = side == 1 ? without(OTHER, k) : OTHER;
                dueSides("dropped " + side + " " + k, judge, left + "|-" + right);
                due("one act more", () -> judge.told(6), 2);
            }
        }
    }

    /** A side without its item i. */
    static String without(String side, int i) {
        String[] items = side.split("\\*");
        String all = "";
        for (int j = 0; j < items.length; j++) {
            all = j == i ? all : joined(all, items[j]);
        }
        return all;
    }

    static void dropAll() {
        HeapJudge judge = of(FULL + "|-" + OTHER);
        for (int left = 4; left >= 0; left--) {
            int k = left;
            due("drop of the last", () -> judge.drop(0, k), left);
            due("drop of the first", () -> judge.drop(1, 0), left);
        }
        due("no part is left", () -> judge.drop(0, 0), MISSING);
        due("no part is left", () -> judge.drop(1, 0), MISSING);
        due("claims stay", () -> judge.told(2) * 10 + judge.told(3), 66);
    }

    static void dropRefused() {
        says("NoSuchElementException: no such SIDE, PART, CLAIM, SEQUENT (so below, ahead of others).");
        HeapJudge judge = of(FULL + "|-a->b*c=d");
        int times = 0;
        for (int side : NO_SIDE) {
            due("drop of side " + side, () -> judge.drop(side, 0), MISSING);
            times++;
        }
        int[][] outside = {{0, -1}, {0, 5}, {0, 6}, {1, 1}, {1, -1}, {1, 5}};
        for (int[] one : outside) {
            due("drop " + one[0] + " " + one[1], () -> judge.drop(one[0], one[1]), MISSING);
            times++;
        }
        for (int k : FAR) {
            due("drop of " + k, () -> judge.drop(0, k), MISSING);
            due("drop of " + k, () -> judge.drop(1, k), MISSING);
            times += 2;
        }
        dueSides("all stays", judge, FULL + "|-a->b*c=d");
        due("no act", () -> judge.told(6), 1);
        due("refused so often", () -> judge.status(0), times);
        due("none for another reason", () -> judge.status(1), 0);
        due("an empty side", () -> new HeapJudge().drop(0, 0), MISSING);
        due("an empty side", () -> new HeapJudge().drop(1, 0), MISSING);
    }

    static void forget() {
        says("CLAIM k goes, likewise.");
        for (int side = 0; side < 2; side++) {
            for (int k = 0; k < 6; k++) {
                HeapJudge judge = of(FULL + "|-" + OTHER);
                int where = side;
                int which = k;
                due("forget " + side + " " + k, () -> judge.forget(where, which), 5);
                String left = side == 0 ? without(FULL, 5 + k) : FULL;
                String right = side == 1 ? without(OTHER, 5 + k) : OTHER;
                dueSides("forgotten " + side + " " + k, judge, left + "|-" + right);
                due("one act more", () -> judge.told(6), 2);
            }
        }
    }

    static void forgetAll() {
        HeapJudge judge = of(FULL + "|-" + OTHER);
        for (int left = 5; left >= 0; left--) {
            int k = left;
            due("forget the last", () -> judge.forget(0, k), left);
            due("forget the first", () -> judge.forget(1, 0), left);
        }
        due("no claim is left", () -> judge.forget(0, 0), MISSING);
        due("no claim is left", () -> judge.forget(1, 0), MISSING);
        due("parts stay", () -> judge.told(0) * 10 + judge.told(1), 55);
    }

    static void forgetRefused() {
        HeapJudge judge = of("a->b*c=d|-" + FULL);
        int times = 0;
        for (int side : NO_SIDE) {
            due("forget of side " + side, () -> judge.forget(side, 0), MISSING);
            times++;
        }
        int[][] outside = {{1, -1}, {1, 6}, {1, 7}, {0, 1}, {0, -1}, {0, 6}};
        for (int[] one : outside) {
            due("forget " + one[0] + " " + one[1], () -> judge.forget(one[0], one[1]), MISSING);
            times++;
        }
        for (int k : FAR) {
            due("forget " + k, () -> judge.forget(0, k), MISSING);
            due("forget " + k, () -> judge.forget(1, k), MISSING);
            times += 2;
        }
        dueSides("all stays", judge, "a->b*c=d|-" + FULL);
        due("no act", () -> judge.told(6), 1);
        due("refused so often", () -> judge.status(0), times);
        due("none for another reason", () -> judge.status(1), 0);
        due("parts are no claims", () -> of("a->b|-a->b").forget(0, 0), MISSING);
        due("claims are no parts", () -> of("a=b|-a=b").drop(1, 0), MISSING);
    }

    static void undoOfEach() {
        says("All is as ahead of the latest text() without a FAULT, turn(), drop(), forget()");
        HeapJudge judge = of(FULL + "|-" + OTHER);
        judge.drop(0, 2);
        due("drop", judge::undo, 1);
        dueSides("drop taken back", judge, FULL + "|-" + OTHER);
        judge.forget(1, 3);
        due("forget", judge::undo, 1);
        dueSides("forget taken back", judge, FULL + "|-" + OTHER);
        judge.turn();
        due("turn", judge::undo, 1);
        dueSides("turn taken back", judge, FULL + "|-" + OTHER);
        tell(judge, "a->b|-emp");
        due("text", judge::undo, 1);
        dueSides("text taken back", judge, FULL + "|-" + OTHER);
        due("the first text", judge::undo, 0);
        dueSides("as it was at first", judge, "emp|-emp");
    }

    static void undoNone() {
        says("how many still can; NONE: none could");
        HeapJudge judge = new HeapJudge();
        due("none", judge::undo, NONE);
        judge.turn();
        due("the only one", judge::undo, 0);
        due("none again", judge::undo, NONE);
        due("none still", judge::undo, NONE);
        due("nothing refused is counted", () -> judge.status(0) + judge.status(1), 0);
        due("none can", () -> judge.told(6), 0);
    }

    static String numbered(int i) {
        String letters = "abcde";
        return letters.charAt(i / 5 % 5) + "->" + letters.charAt(i % 5) + "|-emp";
    }

    static void undoTen() {
        says("(the latest 10 can be taken back)");
        for (int acts = 1; acts <= 23; acts++) {
            HeapJudge judge = new HeapJudge();
            for (int i = 0; i < acts; i++) {
                tell(judge, numbered(i));
                int now = Math.min(10, i + 1);
                due("acts", () -> judge.told(6), now);
            }
            int back = Math.min(10, acts);
            for (int i = 1; i <= back; i++) {
                due("undo " + i + " of " + acts, judge::undo, back - i);
                dueSides("undone " + i + " of " + acts, judge, acts == i ? "emp|-emp" : numbered(acts - i - 1));
            }
            due("no more of " + acts, judge::undo, NONE);
            dueSides("stays, of " + acts, judge, acts <= 10 ? "emp|-emp" : numbered(acts - 11));
        }
    }

    static void undoAfterMany() {
        HeapJudge judge = of(FULL + "|-" + OTHER);
        for (int i = 0; i < 31; i++) {
            judge.turn();
        }
        for (int i = 0; i < 5; i++) {
            judge.drop(0, 0);
            judge.forget(1, 0);
        }
        for (int i = 0; i < 10; i++) {
            judge.undo();
        }
        dueSides("ten of many", judge, OTHER + "|-" + FULL);
        due("no eleventh", judge::undo, NONE);
    }

    static void undoAndOn() {
        HeapJudge judge = new HeapJudge();
        for (int i = 0; i < 12; i++) {
            tell(judge, numbered(i));
        }
        for (int i = 0; i < 4; i++) {
            judge.undo();
        }
        dueSides("four taken back", judge, numbered(7));
        due("six are left", () -> judge.told(6), 6);
        for (int i = 12; i < 20; i++) {
            tell(judge, numbered(i));
        }
        due("ten again", () -> judge.told(6), 10);
        for (int i = 18; i >= 12; i--) {
            judge.undo();
            dueSides("back to " + i, judge, numbered(i));
        }
        judge.undo();
        dueSides("behind them those of before", judge, numbered(7));
        judge.undo();
        dueSides("and", judge, numbered(6));
        due("the last one", judge::undo, 0);
        dueSides("the oldest", judge, numbered(5));
        due("none", judge::undo, NONE);
    }

    static void noActs() {
        says("the latest text() without a FAULT");
        HeapJudge judge = of("a->b*a=b|-emp");
        tell(judge, "?");
        answer(() -> judge.text(99));
        answer(() -> judge.drop(1, 0));
        answer(() -> judge.forget(0, 1));
        judge.feed(0, 0, 0, 0, 0);
        judge.proof(0);
        judge.over();
        judge.heaps(0);
        due("one act alone", () -> judge.told(6), 1);
        due("taken back", judge::undo, 0);
        dueSides("as at first", judge, "emp|-emp");
        due("undo is none", judge::undo, NONE);
    }

    static void told() {
        says("0 PARTS to the left, 1 to the right, 2 CLAIMS to the left, 3 to the right, 4 VARIABLES (a to e) in one"
                + " SIDE or both, 5 bytes of the TAPE, 6 how many acts can be taken back");
        HeapJudge judge = of("a->b*ls(b,c)*tree(c)*a=b|-e->0*a!=b*b!=c");
        put(judge, "abcdefghijklmnopqrstuvwxyz");
        judge.turn();
        judge.turn();
        int[] want = {3, 1, 1, 2, 4, 40, 3};
        for (int what = 0; what <= 6; what++) {
            int w = what;
            due("told " + what, () -> judge.told(w), want[what]);
        }
        HeapJudge full = of(FULL + "|-" + OTHER);
        put(full, " ".repeat(200));
        for (int i = 0; i < 12; i++) {
            full.turn();
        }
        int[] most = {5, 5, 6, 6, 5, 200, 10};
        HeapJudge fresh = new HeapJudge();
        for (int what = 0; what <= 6; what++) {
            int w = what;
            due("full told " + what, () -> full.told(w), most[what]);
            due("new told " + what, () -> fresh.told(w), 0);
        }
    }

    static void toldVariables() {
        says("4 VARIABLES (a to e) in one SIDE or both");
        String[] texts = {"emp|-emp", "0->0|-0=0", "a->a|-a=a", "a->0|-emp", "emp|-0->a", "emp|-0->0,a", "ls(0,a)|-emp",
            "tree(a)|-emp", "a=0|-emp", "emp|-0!=a", "a->b|-b->a", "a->b,c|-ls(d,e)", "a=b*c!=d|-tree(e)",
            "e=e|-emp", "0!=b|-d=0"};
        int[] counts = {0, 0, 1, 1, 1, 1, 1, 1, 1, 1, 2, 5, 5, 1, 2};
        for (int i = 0; i < texts.length; i++) {
            HeapJudge judge = of(texts[i]);
            due("variables of " + texts[i], () -> judge.told(4), counts[i]);
        }
    }

    static void toldRefused() {
        says("`int told(int what) throws IllegalArgumentException`");
        HeapJudge judge = of(FULL + "|-" + OTHER);
        due("told -1", () -> judge.told(-1), ILLEGAL);
        due("told 7", () -> judge.told(7), ILLEGAL);
        for (int what : FAR) {
            due("told " + what, () -> judge.told(what), ILLEGAL);
        }
        due("refused so often", () -> judge.status(1), 2 + FAR.length);
        due("none for another reason", () -> judge.status(0), 0);
    }

    static void dueItem(HeapJudge judge, int side, int k, int[] want) {
        for (int what = 0; what < want.length; what++) {
            int w = what;
            due("part " + side + " " + k + " " + what, () -> judge.part(side, k, w), want[what]);
        }
    }

    static void part() {
        says("Of a PART: 0 its kind, 1 x, 2 y, 3 z (0 of others).");
        HeapJudge judge = of("e->d*e->d,c*ls(e,d)*tree(e)*0->0|-0->0,0*ls(0,0)*tree(0)*a->e,e*ls(e,e)");
        dueItem(judge, 0, 0, new int[] {0, 5, 4, 0});
        dueItem(judge, 0, 1, new int[] {1, 5, 4, 3});
        dueItem(judge, 0, 2, new int[] {2, 5, 4, 0});
        dueItem(judge, 0, 3, new int[] {3, 5, 0, 0});
        dueItem(judge, 0, 4, new int[] {0, 0, 0, 0});
        dueItem(judge, 1, 0, new int[] {1, 0, 0, 0});
        dueItem(judge, 1, 1, new int[] {2, 0, 0, 0});
        dueItem(judge, 1, 2, new int[] {3, 0, 0, 0});
        dueItem(judge, 1, 3, new int[] {1, 1, 5, 5});
        dueItem(judge, 1, 4, new int[] {2, 5, 5, 0});
    }

    static void partRefused() {
        says("(so below, ahead of others)");
        HeapJudge judge = of(FULL + "|-a->b");
        int missing = 0;
        for (int side : NO_SIDE) {
            due("part of side " + side, () -> judge.part(side, 0, 0), MISSING);
            due("part of side " + side + ", what 9", () -> judge.part(side, 0, 9), MISSING);
            missing += 2;
        }
        int[][] outside = {{0, -1}, {0, 5}, {1, 1}, {1, -1}};
        for (int[] one : outside) {
            due("part " + one[0] + " " + one[1], () -> judge.part(one[0], one[1], 0), MISSING);
            due("part " + one[0] + " " + one[1] + ", what -1", () -> judge.part(one[0], one[1], -1), MISSING);
            missing += 2;
        }
        for (int far : FAR) {
            due("part " + far, () -> judge.part(0, far, 0), MISSING);
            due("part " + far + " what " + far, () -> judge.part(0, far, far), MISSING);
            due("part what " + far, () -> judge.part(0, 0, far), ILLEGAL);
            missing += 2;
        }
        due("part what -1", () -> judge.part(0, 4, -1), ILLEGAL);
        due("part what 4", () -> judge.part(1, 0, 4), ILLEGAL);
        due("missing", () -> judge.status(0), missing);
        due("illegal", () -> judge.status(1), 2 + FAR.length);
        due("an empty side", () -> new HeapJudge().part(0, 0, 0), MISSING);
    }

    static void claim() {
        says("Of a CLAIM: 0 1 by =, 0 by !=; 1 x, 2 y.");
        HeapJudge judge = of("e=d*e!=d*0=0*0!=0*a=e*a!=0|-0=e*e!=a");
        int[][] left = {{1, 5, 4}, {0, 5, 4}, {1, 0, 0}, {0, 0, 0}, {1, 1, 5}, {0, 1, 0}};
        int[][] right = {{1, 0, 5}, {0, 5, 1}};
        for (int what = 0; what < 3; what++) {
            int w = what;
            for (int k = 0; k < left.length; k++) {
                int i = k;
                due("left claim " + k + " " + what, () -> judge.claim(0, i, w), left[k][what]);
            }
            for (int k = 0; k < right.length; k++) {
                int i = k;
                due("right claim " + k + " " + what, () -> judge.claim(1, i, w), right[k][what]);
            }
        }
    }

    static void claimRefused() {
        HeapJudge judge = of("a=b|-" + FULL);
        int missing = 0;
        for (int side : NO_SIDE) {
            due("claim of side " + side, () -> judge.claim(side, 0, 0), MISSING);
            due("claim of side " + side + ", what 9", () -> judge.claim(side, 0, 9), MISSING);
            missing += 2;
        }
        int[][] outside = {{1, -1}, {1, 6}, {0, 1}, {0, -1}};
        for (int[] one : outside) {
            due("claim " + one[0] + " " + one[1], () -> judge.claim(one[0], one[1], 0), MISSING);
            due("claim " + one[0] + " " + one[1] + ", what 3", () -> judge.claim(one[0], one[1], 3), MISSING);
            missing += 2;
        }
        for (int far : FAR) {
            due("claim " + far, () -> judge.claim(1, far, 0), MISSING);
            due("claim " + far + " what " + far, () -> judge.claim(1, far, far), MISSING);
            due("claim what " + far, () -> judge.claim(1, 0, far), ILLEGAL);
            missing += 2;
        }
        due("claim what -1", () -> judge.claim(1, 5, -1), ILLEGAL);
        due("claim what 3", () -> judge.claim(0, 0, 3), ILLEGAL);
        due("missing", () -> judge.status(0), missing);
        due("illegal", () -> judge.status(1), 2 + FAR.length);
        due("an empty side", () -> new HeapJudge().claim(1, 0, 0), MISSING);
    }

    static void status() {
        says("How many calls were refused: 0 NoSuchElementException, 1 IllegalArgumentException; NONE for others.");
        HeapJudge judge = new HeapJudge();
        due("none missing", () -> judge.status(0), 0);
        due("none illegal", () -> judge.status(1), 0);
        due("status 2", () -> judge.status(2), NONE);
        due("status -1", () -> judge.status(-1), NONE);
        for (int what : FAR) {
            due("status " + what, () -> judge.status(what), NONE);
        }
        due("asking so is not refused", () -> judge.status(0) + judge.status(1), 0);
        for (int i = 1; i <= 100; i++) {
            int times = i;
            answer(() -> judge.place(0));
            answer(() -> judge.told(9));
            answer(() -> judge.told(9));
            due("missing so far", () -> judge.status(0), times);
            due("illegal so far", () -> judge.status(1), 2 * times);
        }
        judge.turn();
        judge.undo();
        due("undo does not take them back", () -> judge.status(1), 200);
    }

    /** Each call that can be refused, and by which reason it counts. */
    static void statusOfEach() {
        HeapJudge judge = of("a->b*a=b|-emp");
        Call[] missing = {() -> judge.drop(0, 1), () -> judge.forget(0, 1), () -> judge.part(1, 0, 0),
            () -> judge.claim(1, 0, 0), () -> judge.sequent(1, 0), () -> judge.partOf(0, 1, 0, 0),
            () -> judge.overPart(1, NONE, 0), () -> judge.place(6)};
        Call[] illegal = {() -> judge.text(1), () -> judge.told(7), () -> judge.part(0, 0, 4),
            () -> judge.claim(0, 0, 3), () -> judge.proof(5), () -> judge.sequent(0, 7),
            () -> judge.partOf(0, 0, 0, 4), () -> judge.overPart(0, 0, 4), () -> judge.heaps(2),
            () -> judge.refused(3)};
        for (int i = 0; i < missing.length; i++) {
            int times = i + 1;
            due("missing call " + i, missing[i], MISSING);
            due("counts", () -> judge.status(0), times);
        }
        for (int i = 0; i < illegal.length; i++) {
            int times = i + 1;
            due("illegal call " + i, illegal[i], ILLEGAL);
            due("counts", () -> judge.status(1), times);
        }
        due("each once", () -> judge.status(0), missing.length);
        dueSides("all stays", judge, "a->b*a=b|-emp");
    }

    /** All answers there are, in one text. */
    static String allAnswers(HeapJudge judge) {
        StringBuilder all = new StringBuilder(sides(judge));
        for (int what = 0; what <= 19; what++) {
            int w = what;
            all.append(' ').append(what <= 6 ? answer(() -> judge.told(w)) : "");
            all.append(' ').append(what <= 4 || what >= 10 ? answer(() -> judge.proof(w)) : "");
            all.append(' ').append(what <= 1 ? answer(() -> judge.heaps(w)) : "");
            all.append(' ').append(what <= 2 ? answer(() -> judge.refused(w)) : "");
            all.append(' ').append(what >= 1 && what <= 5 ? answer(() -> judge.place(w)) : "");
        }
        for (int k = 0; k < judge.proof(1); k++) {
            for (int what = 0; what <= 6; what++) {
                all.append(' ').append(judge.sequent(k, what));
            }
            all.append(sideOf(judge, k, 0)).append(sideOf(judge, k, 1));
        }
        for (int i = 0; i < judge.over(); i++) {
            all.append(' ').append(leftOver(judge, i));
        }
        return all.append(judge.over()).append(' ').append(judge.print()).append(' ').append(judge.fault()).toString();
    }

    static void askedNothingChanges() {
        says("Asked, nothing stays changed.");
        String[] texts = {"emp|-emp", "ls(a,b)*ls(b,0)|-ls(a,0)", "tree(a)*b->c|-ls(a,0)*d=e", "a->b*c->d|-ls(a,b)",
            FULL + "|-" + OTHER, "a!=a|-emp", "tree(a)*tree(b)*ls(c,d)|-c->e*a->d,e"};
        for (String text : texts) {
            HeapJudge judge = of(text);
            String once = allAnswers(judge);
            dueText("asked again of " + text, allAnswers(judge), once);
            judge.turn();
            allAnswers(judge);
            judge.undo();
            dueText("turned and taken back, of " + text, allAnswers(judge), once);
            HeapJudge other = of(text);
            String print = answer(other::print);
            dueText("in another order, of " + text, print + answer(other::over) + answer(() -> other.heaps(1)),
                    answer(judge::print) + answer(judge::over) + answer(() -> judge.heaps(1)));
        }
    }

    /** What one text answers does not hang on the texts ahead of it. */
    static void oneAfterTheOther() {
        says("tell both SIDES");
        String[] texts = {"tree(a)|-tree(a)", "ls(a,b)*ls(b,c)*ls(c,d)*ls(d,e)*ls(e,0)|-ls(a,0)", "emp|-emp",
            "a->b,c*b->d,e*tree(c)*tree(d)*tree(e)|-tree(a)", "tree(e)|-tree(0)", "ls(a,b)*b->0|-ls(a,0)",
            "a->b|-a->c", "c->0,e*ls(d,c)*ls(e,d)*tree(d)|-ls(e,0)", "a!=a|-b->c", "tree(b)*tree(c)|-emp",
            "tree(e)|-tree(e)", "a->b,0*b->0,0|-tree(a)", "emp|-tree(a)*ls(b,c)", "a->b*c->d,e|-ls(a,b)"};
        for (int first = 0; first < texts.length; first++) {
            HeapJudge judge = new HeapJudge();
            for (int i = 0; i < texts.length; i++) {
                String text = texts[(first + i * 5) % texts.length];
                tell(judge, text);
                dueText("after others, " + text, someAnswers(judge), someAnswers(of(text)));
            }
        }
    }

    static String someAnswers(HeapJudge judge) {
        return judge.print() + " " + judge.proof(3) + " " + judge.over() + " " + judge.heaps(0) + " " + judge.heaps(1)
                + " " + judge.refused(0) + " " + judge.refused(2) + " " + judge.place(1) + " " + judge.place(5);
    }

    static void calls512() {
        says("An object is used for at most 512 calls after it has been made");
        HeapJudge judge = new HeapJudge();
        for (int i = 0; i < 73; i++) {
            judge.feed(0x6c732861, 0x2c62292a, 0x6c732862, 0x2c30297c, 0x2d6c7328);
            judge.feed(0x612c3029, 0, 0, 0, 0);
            due("text", () -> judge.text(24), 3);
            due("proof", () -> judge.proof(0), 1);
            due("over", judge::over, -3);
            due("heaps", () -> judge.heaps(0), 9);
            due("undo", judge::undo, 0);
        }
        due("the 512th call", judge::print, 2);
    }
}
