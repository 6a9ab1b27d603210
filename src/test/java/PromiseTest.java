/** Each promise of the document by examples whose answers were worked out by hand from its words. */
public final class PromiseTest extends Due {
    public static void main(String[] args) {
        newObject();
        feed();
        textThatIsRight();
        textWithFaults();
        textRefused();
        faultOfTheLatestText();
        turn();
        drop();
        forget();
        undo();
        undoOfTen();
        told();
        part();
        claim();
        proofSteps();
        proofReady();
        proofVoid();
        proofCycle();
        proofTooMuch();
        proofAsked();
        sequent();
        partOf();
        over();
        overPart();
        heaps();
        heapsInOrder();
        refused();
        place();
        print();
        status();
        end();
    }

    static void newObject() {
        HeapJudge judge = new HeapJudge();
        for (int what = 0; what <= 6; what++) {
            int w = what;
            due("new told " + w, () -> judge.told(w), 0);
        }
        due("new fault", judge::fault, NONE);
        due("new proof", () -> judge.proof(0), 1);
        due("new over", judge::over, 1);
        due("new heaps", () -> judge.heaps(0), 1);
        due("new heaps of the right side", () -> judge.heaps(1), 1);
        due("new undo", judge::undo, NONE);
        due("new print", judge::print, 2);
        due("new status", () -> judge.status(0), 0);
    }

    static void feed() {
        HeapJudge judge = new HeapJudge();
        for (int i = 1; i <= 10; i++) {
            due("feed " + i, () -> judge.feed(0x20202020, 0x20202020, 0x20202020, 0x20202020, 0x20202020), 20 * i);
        }
        due("feed beyond 200", () -> judge.feed(1, 2, 3, 4, 5), NONE);
        due("tape when full", () -> judge.told(5), 200);
        due("blanks alone", () -> judge.text(200), -9);
        due("blanks alone, fault", judge::fault, 200);
        due("feed again", () -> judge.feed(0x656d707c, 0x2d656d70, -1, 0x80000000, 0), 20);
        due("highest byte first", () -> judge.text(8), 0);
        judge.feed(0x656d707c, 0x2d656d70, -1, 0x80000000, 0);
        due("a negative number's bytes", () -> judge.text(9), -9);
        due("a negative number's bytes, fault", judge::fault, 8);
    }

    static void textThatIsRight() {
        dueRead("emp|-emp", 0, NONE);
        dueRead("  emp  |-  emp  ", 0, NONE);
        dueRead("a->b|-a->b,c", 2, NONE);
        dueRead(" a -> 0 , e * ls ( a , b ) * tree ( 0 ) |- a = b * b != 0 ", 3, NONE);
        dueRead("0->0*0=0*0!=0|-emp", 1, NONE);
        dueRead("a->b*a->b*a->b*a->b*a->b*a=b*a=b*a=b*a!=b*a!=b*a!=b|-a->b*a->b*a->b*a->b*a->b*a=b", 10, NONE);
        String blanks = " ".repeat(192);
        dueRead("emp|-emp" + blanks, 0, NONE);
        dueRead(blanks + "emp|-emp", 0, NONE);
    }

    static void textWithFaults() {
        dueRead("", -9, 0);
        dueRead("   ", -9, 3);
        dueRead("emp", -9, 3);
        dueRead("emp |", -9, 4);
        dueRead("emp| -emp", -9, 3);
        dueRead("emp - emp", -9, 4);
        dueRead("emp |-  ", -9, 8);
        dueRead("|-emp", -9, 0);
        dueRead("a", -9, 1);
        dueRead("a  ", -9, 3);
        dueRead("a-", -9, 1);
        dueRead("a->", -9, 3);
        dueRead("a- >b|-emp", -9, 1);
        dueRead("a !b|-emp", -9, 2);
        dueRead("a! =b|-emp", -9, 1);
        dueRead("a>b|-emp", -9, 1);
        dueRead("a->b,|-emp", -9, 5);
        dueRead("a->b,c,d|-emp", -9, 6);
        dueRead("a->bc|-emp", -9, 3);
        dueRead("a->f|-emp", -9, 3);
        dueRead("a->B|-emp", -9, 3);
        dueRead("a->1|-emp", -9, 3);
        dueRead("a->b0|-emp", -9, 4);
        dueRead("a->0b|-emp", -9, 4);
        dueRead("ab=c|-emp", -9, 0);
        dueRead("a=b=c|-emp", -9, 3);
        dueRead("a=|-emp", -9, 2);
        dueRead("a!=ls|-emp", -9, 3);
        dueRead("ls a,b)|-emp", -9, 3);
        dueRead("ls(a b)|-emp", -9, 5);
        dueRead("ls(a,b|-emp", -9, 6);
        dueRead("ls(a,bb)|-emp", -9, 5);
        dueRead("ls->a|-emp", -9, 2);
        dueRead("lsx(a,b)|-emp", -9, 0);
        dueRead("l s(a,b)|-emp", -9, 0);
        dueRead("tree(a,b)|-emp", -9, 6);
        dueRead("tree(f)|-emp", -9, 5);
        dueRead("trees(a)|-emp", -9, 0);
        dueRead("empa|-emp", -9, 0);
        dueRead("em|-emp", -9, 0);
        dueRead("emp emp|-emp", -9, 4);
        dueRead("emp*a->b|-emp", -9, 3);
        dueRead("a->b*emp|-emp", -9, 5);
        dueRead("a->b**b->c|-emp", -9, 5);
        dueRead("a->b b->c|-emp", -9, 5);
        dueRead("emp|-emp|-emp", -9, 8);
        dueRead("emp|-a->b*", -9, 10);
        dueRead("emp|-*a->b", -9, 5);
        dueRead("emp|-emp ?", -9, 9);
        dueRead("emp\t|-emp", -9, 3);
        String five = "a->b*b->c*c->d*d->e*e->a";
        dueRead(five + "*a->0|-emp", -8, 25);
        dueRead(five + " *  a->0|-emp", -8, 28);
        dueRead(five + "*a->f|-emp", -9, 28);
        dueRead(five + "*a->0,|-emp", -9, 30);
        dueRead(five + "*a->0,b ?", -8, 25);
        dueRead(five + "*tree(a", -9, 31);
        dueRead(five + "*a=b*ls(a,b)*a=b|-emp", -8, 29);
        dueRead("emp|-" + five + "*tree(0)", -8, 30);
        String six = "a=b*a!=b*0=a*c=d*d=e*e!=a";
        dueRead(six + "*a=b|-emp", -8, 26);
        dueRead(six + "*a=", -9, 28);
        dueRead(six + "*a->b*a!=b?", -8, 31);
        dueRead("emp|-" + six + "*0=0", -8, 31);
    }

    static void textRefused() {
        HeapJudge judge = of("a->b|-emp");
        put(judge, "emp|-emp");
        due("text of too many", () -> judge.text(21), ILLEGAL);
        due("text of less than nothing", () -> judge.text(-1), ILLEGAL);
        due("the tape stays", () -> judge.told(5), 20);
        due("the sides stay", () -> judge.told(0), 1);
        due("the fault stays", judge::fault, NONE);
        due("then it is read", () -> judge.text(8), 0);
        due("the tape is empty, the rest too", () -> judge.told(5), 0);
        put(judge, "a->?");
        due("a fault", () -> judge.text(20), -9);
        due("leaves the tape empty", () -> judge.told(5), 0);
        due("and cannot be taken back", () -> judge.told(6), 2);
        due("nothing on the tape", () -> judge.text(1), ILLEGAL);
        due("keeps the fault", judge::fault, 3);
        due("text of nothing", () -> judge.text(0), -9);
        due("has its fault at 0", judge::fault, 0);
    }

    static void faultOfTheLatestText() {
        HeapJudge judge = new HeapJudge();
        tell(judge, "a->b|-xyz");
        due("fault", judge::fault, 6);
        judge.turn();
        due("fault after another act", judge::fault, 6);
        tell(judge, "a->b|-emp");
        due("fault after a right text", judge::fault, NONE);
    }

    static void turn() {
        HeapJudge judge = of("a->b*c=d|-ls(a,b)*tree(c)*a!=b*b!=c");
        due("turn", judge::turn, 3);
        due("left parts then", () -> judge.told(0), 2);
        due("right parts then", () -> judge.told(1), 1);
        due("left claims then", () -> judge.told(2), 2);
        due("right claims then", () -> judge.told(3), 1);
        due("kind of the left part", () -> judge.part(0, 1, 0), 3);
        due("turn back", judge::turn, 3);
        due("right parts again", () -> judge.told(1), 2);
    }

    static void drop() {
        HeapJudge judge = of("a->b*b->c*c->d|-ls(a,b)");
        due("drop of the middle", () -> judge.drop(0, 1), 2);
        due("the last moved up", () -> judge.part(0, 1, 1), 3);
        due("the first stays", () -> judge.part(0, 0, 1), 1);
        due("drop to the right", () -> judge.drop(1, 0), 0);
        due("drop of nothing", () -> judge.drop(1, 0), MISSING);
        due("drop behind the end", () -> judge.drop(0, 2), MISSING);
        due("drop ahead of the first", () -> judge.drop(0, -1), MISSING);
        due("drop of no side", () -> judge.drop(2, 0), MISSING);
        due("drop of no side", () -> judge.drop(-1, 0), MISSING);
        due("acts", () -> judge.told(6), 3);
    }

    static void forget() {
        HeapJudge judge = of("a=b*b!=c*c=d|-a!=e");
        due("forget the first", () -> judge.forget(0, 0), 2);
        due("the second moved up", () -> judge.claim(0, 0, 0), 0);
        due("forget to the right", () -> judge.forget(1, 0), 0);
        due("forget nothing", () -> judge.forget(1, 0), MISSING);
        due("forget behind the end", () -> judge.forget(0, 2), MISSING);
        due("forget ahead of the first", () -> judge.forget(0, -1), MISSING);
        due("forget of no side", () -> judge.forget(2, 0), MISSING);
        due("acts", () -> judge.told(6), 3);
    }

    static void undo() {
        HeapJudge judge = of("a->b*a!=b|-ls(a,b)");
        due("proved", () -> judge.proof(0), 1);
        judge.forget(0, 0);
        due("stuck", () -> judge.proof(0), 0);
        judge.drop(1, 0);
        judge.turn();
        tell(judge, "emp|-emp");
        tell(judge, "emp|-?");
        due("five acts", () -> judge.told(6), 5);
        due("undo of text", judge::undo, 4);
        due("as turned", () -> judge.told(1), 1);
        due("undo of turn", judge::undo, 3);
        due("as dropped", () -> judge.told(0), 1);
        due("undo of drop", judge::undo, 2);
        due("as forgotten", () -> judge.told(1), 1);
        due("no claim yet", () -> judge.told(2), 0);
        due("still stuck", () -> judge.proof(0), 0);
        due("undo of forget", judge::undo, 1);
        due("proved again", () -> judge.proof(0), 1);
        due("heaps again", () -> judge.heaps(0), 2);
        due("undo of the first", judge::undo, 0);
        due("nothing there", () -> judge.told(0), 0);
        due("undo of nothing", judge::undo, NONE);
    }

    static void undoOfTen() {
        HeapJudge judge = of("a->b*b->c*c->d*d->e*e->a|-emp");
        judge.drop(0, 0);
        judge.drop(0, 0);
        for (int i = 0; i < 9; i++) {
            judge.turn();
        }
        due("ten at most", () -> judge.told(6), 10);
        for (int i = 9; i >= 0; i--) {
            due("undo to " + i, judge::undo, i);
        }
        due("no more", judge::undo, NONE);
        due("the first drop can't be taken back", () -> judge.told(0), 4);
        judge.turn();
        due("goes on", () -> judge.told(6), 1);
        due("undo", judge::undo, 0);
        due("left", () -> judge.told(0), 4);
    }

    static void told() {
        HeapJudge judge = of("a->0*ls(b,c)*a=b|-tree(e)*0!=0*a!=0");
        put(judge, "abc");
        int[] want = {2, 1, 1, 2, 4, 20, 1};
        for (int what = 0; what < want.length; what++) {
            int w = what;
            due("told " + w, () -> judge.told(w), want[w]);
        }
        due("told -1", () -> judge.told(-1), ILLEGAL);
        due("told 7", () -> judge.told(7), ILLEGAL);
        HeapJudge pair = of("emp|-0->0,d*c!=0");
        due("a variable as z, one in a claim", () -> pair.told(4), 2);
    }

    static void dueFour(String what, HeapJudge judge, int side, int k, int[] want) {
        for (int i = 0; i < 4; i++) {
            int w = i;
            due(what + " " + w, () -> judge.part(side, k, w), want[w]);
        }
    }

    static void part() {
        HeapJudge judge = of("b->e*b->c,d|-ls(d,0)*tree(e)");
        dueFour("cell", judge, 0, 0, new int[] {0, 2, 5, 0});
        dueFour("pair", judge, 0, 1, new int[] {1, 2, 3, 4});
        dueFour("list", judge, 1, 0, new int[] {2, 4, 0, 0});
        dueFour("tree", judge, 1, 1, new int[] {3, 5, 0, 0});
        due("part what 4", () -> judge.part(0, 0, 4), ILLEGAL);
        due("part what -1", () -> judge.part(0, 0, -1), ILLEGAL);
        due("part 2", () -> judge.part(0, 2, 0), MISSING);
        due("part -1", () -> judge.part(0, -1, 0), MISSING);
        due("part of no side", () -> judge.part(2, 0, 0), MISSING);
        due("no such part ahead of what", () -> judge.part(-1, 0, 9), MISSING);
    }

    static void claim() {
        HeapJudge judge = of("c=a|-a!=0*0=d");
        due("by =", () -> judge.claim(0, 0, 0), 1);
        due("x", () -> judge.claim(0, 0, 1), 3);
        due("y", () -> judge.claim(0, 0, 2), 1);
        due("by !=", () -> judge.claim(1, 0, 0), 0);
        due("second x", () -> judge.claim(1, 1, 1), 0);
        due("second y", () -> judge.claim(1, 1, 2), 4);
        due("claim what 3", () -> judge.claim(0, 0, 3), ILLEGAL);
        due("claim what -1", () -> judge.claim(0, 0, -1), ILLEGAL);
        due("no such claim ahead of what", () -> judge.claim(0, 1, 3), MISSING);
        due("claim of no side", () -> judge.claim(2, 0, 0), MISSING);
    }

    static void proofSteps() {
        dueSteps("emp|-emp", "2", 1);
        dueSteps("a->b|-a->b", "32", 1);
        dueSteps("a->b|-a->c", "49", 0);
        dueSteps("a->b,c|-a->d,c", "49", 0);
        dueSteps("a->b|-a->b,c", "9", 0);
        dueSteps("a->b*b->0|-ls(a,0)", "552", 1);
        dueSteps("a->b*a!=b|-ls(a,b)", "52", 1);
        dueSteps("a->b*b->c|-ls(a,b)*b->c", "369", 0);
        dueSteps("a->b|-ls(a,b)", "69", 0);
        dueSteps("a->b*b->c,c|-ls(a,b)", "59", 0);
        dueSteps("a->b,c|-ls(a,b)", "89", 0);
        dueSteps("a->0,0|-tree(a)", "52", 1);
        dueSteps("a->b|-tree(a)", "89", 0);
        dueSteps("emp|-ls(a,b)*tree(c)", "889", 0);
        dueSteps("tree(a)|-ls(a,b)", "789", 0);
        dueSteps("tree(a)|-ls(a,0)", "7289", 0);
        dueSteps("tree(a)*a!=0|-a->b,c", "7049", 0);
        dueSteps("ls(a,b)*a!=b|-a->c", "7049", 0);
        dueSteps("ls(a,b)*a!=b|-ls(a,b)", "32", 1);
        dueSteps("ls(a,b)*ls(b,c)|-ls(a,c)", "73269", 0);
        dueSteps("ls(a,b)|-emp", "9", 0);
        HeapJudge twice = of("a->b*ls(c,d)|-ls(c,d)*a->b");
        due("first by the right side", () -> twice.partOf(1, 1, 0, 0), 0);
        HeapJudge folded = of("a->b,c|-tree(d)*tree(a)*tree(e)");
        due("trees in place of one", () -> folded.sequent(1, 3), 4);
        due("the first of them", () -> folded.partOf(1, 1, 1, 1), 2);
        due("the second of them", () -> folded.partOf(1, 1, 2, 1), 3);
        due("the one behind them", () -> folded.partOf(1, 1, 3, 1), 5);
    }

    static void proofReady() {
        HeapJudge chain = of("b=c*a=c*c->d|-a->d");
        due("made one by the other", () -> chain.partOf(0, 0, 0, 1), 1);
        due("and proved", () -> chain.proof(0), 1);
        dueSteps("a=0*ls(b,a)*tree(a)|-ls(b,0)", "32", 1);
        dueSteps("ls(a,a)*tree(0)|-ls(b,b)*tree(0)", "2", 1);
        dueSteps("ls(0,a)|-a=0", "2", 1);
        dueSteps("ls(a,b)*a->c|-a->c*a=b", "32", 1);
        dueSteps("ls(a,b)*a->c,d|-a->c,d*a=b", "32", 1);
        dueSteps("tree(a)*tree(a)|-a=0", "2", 1);
        dueSteps("ls(a,b)*ls(a,b)|-ls(a,b)*ls(a,b)", "332", 1);
        dueSteps("a!=b|-b!=a", "2", 1);
        dueSteps("emp|-a!=b", "9", 0);
        dueSteps("emp|-a!=a", "9", 0);
        dueSteps("emp|-a=a*0=0", "2", 1);
        dueSteps("a->b|-a->b*a!=0", "32", 1);
        dueSteps("a->b*c->d,e|-a!=c*a->b*c->d,e", "332", 1);
        HeapJudge idle = of("a!=b*c!=0*d!=0|-c->0");
        due("pairs of which one is nowhere go", () -> idle.sequent(0, 5), 1);
        HeapJudge once = of("a!=b*b!=a*c!=b*a=c*ls(a,b)|-emp");
        due("each pair once", () -> once.sequent(0, 5), 1);
        due("the greatest variable", () -> once.proof(3), 2);
    }

    static void proofVoid() {
        dueSteps("a!=a|-a->b", "0", 1);
        dueSteps("a!=b*a=b|-a->b", "0", 1);
        dueSteps("0->a|-emp", "0", 1);
        dueSteps("a->b,c*a=0|-emp", "0", 1);
        dueSteps("a->b*a->b,c|-emp", "0", 1);
        dueSteps("a->b*tree(a)|-emp", "0", 1);
        dueSteps("a->b,c*tree(a)|-emp", "0", 1);
        dueSteps("a->b*ls(a,c)*c!=a|-emp", "0", 1);
        dueSteps("a->b|-0->a*a!=a", "9", 0);
        HeapJudge then = of("ls(a,b)*a->c*b->d*ls(e,e)|-ls(a,a)");
        due("void", () -> then.sequent(0, 0), 0);
        due("as it was then: lists to the right not gone", () -> then.sequent(0, 3), 1);
        due("to the left one has gone, one was made one", () -> then.sequent(0, 2), 3);
        due("by what is made", () -> then.partOf(0, 0, 2, 1), 1);
    }

    static void proofCycle() {
        dueSteps("ls(a,b)*b->0|-ls(a,0)", "75251", 1);
        HeapJudge judge = of("ls(a,b)*b->0|-ls(a,0)");
        due("alike to", () -> judge.sequent(4, 6), 0);
        due("not by others", () -> judge.sequent(3, 6), NONE);
        due("row", () -> judge.proof(2), 3);
        HeapJudge three = of("ls(a,b)*ls(b,c)*ls(c,0)|-ls(a,0)");
        due("three lists", () -> three.proof(0), 1);
        due("two cycles", () -> three.proof(11), 2);
    }

    static String claimsBeyond() {
        return "a->a,a*b->a,a*c->a,a*d->a,a|-a->b,b*b->c,c*c->b,b*d->b,b*a=b*a=c*a=d*a=e*b=c*b=d";
    }

    static String partsBeyond() {
        return "tree(a)*tree(b)*tree(c)*tree(d)*tree(e)*a!=0*b!=0*c!=0*d!=0*e!=0"
                + "|-ls(a,b)*ls(b,c)*ls(c,d)*ls(d,e)*ls(e,a)";
    }

    static void proofTooMuch() {
        dueSteps(claimsBeyond(), "4444", 2);
        HeapJudge claims = of(claimsBeyond());
        due("twelve claims are not too many", () -> claims.sequent(3, 4), 12);
        due("none is stuck", () -> claims.proof(4), NONE);
        due("the step by which it came counts", () -> claims.proof(14), 4);
        due("left over", claims::over, -3);
        dueSteps(partsBeyond(), "70707070", 2);
        HeapJudge parts = of(partsBeyond());
        due("eleven parts", () -> parts.sequent(6, 2), 11);
        due("fresh ones so far", () -> parts.proof(3), 11);
        String twelve = "tree(a)*tree(b)*tree(c)*tree(d)*a!=0*b!=0*c!=0*d!=0|-ls(a,b)*ls(b,c)*ls(c,d)*ls(d,a)";
        dueSteps(twelve, "7070707088889", 0);
        due("twelve parts are not too many", () -> of(twelve).sequent(8, 2), 12);
        due("left over has a limit of 40 in a row", () -> of("ls(a,b)*ls(b,0)|-ls(a,0)").over(), -3);
    }

    static void proofAsked() {
        HeapJudge judge = of("ls(a,b)*ls(b,c)|-ls(a,c)");
        int[] want = {0, 5, 3, 6, 4};
        for (int what = 0; what < want.length; what++) {
            int w = what;
            due("proof " + w, () -> judge.proof(w), want[w]);
        }
        int[] times = {0, 0, 1, 1, 0, 0, 1, 1, 0, 1};
        for (int step = 0; step < times.length; step++) {
            int s = step;
            due("times of step " + s, () -> judge.proof(10 + s), times[s]);
        }
        due("proof -1", () -> judge.proof(-1), ILLEGAL);
        due("proof 5", () -> judge.proof(5), ILLEGAL);
        due("proof 9", () -> judge.proof(9), ILLEGAL);
        due("proof 20", () -> judge.proof(20), ILLEGAL);
        due("greatest without any", () -> of("emp|-emp").proof(3), 0);
        due("greatest of a void one", () -> of("d!=d|-emp").proof(3), 4);
        due("greatest of a tree unfolded", () -> of("tree(a)*a!=0|-a->b,c").proof(3), 7);
    }

    static void sequent() {
        HeapJudge judge = of("ls(a,b)*ls(b,c)*d!=a|-ls(a,c)*d=a");
        int[] want = {7, NONE, 2, 1, 1, 1, NONE};
        for (int what = 0; what < want.length; what++) {
            int w = what;
            due("sequent " + w, () -> judge.sequent(0, w), want[w]);
        }
        due("comes of", () -> judge.sequent(1, 1), 0);
        due("sequent what 7", () -> judge.sequent(0, 7), ILLEGAL);
        due("sequent what -1", () -> judge.sequent(0, -1), ILLEGAL);
        due("no such sequent ahead of what", () -> judge.sequent(-1, 7), MISSING);
        int count = judge.proof(1);
        due("sequent behind the last", () -> judge.sequent(count, 0), MISSING);
    }

    static void partOf() {
        HeapJudge judge = of("tree(b)*b!=0*a->c|-b->d,e");
        int[][] left = {{1, 2, 6, 7}, {3, 6, 0, 0}, {3, 7, 0, 0}, {0, 1, 3, 0}};
        for (int k = 0; k < left.length; k++) {
            for (int what = 0; what < 4; what++) {
                int i = k;
                int w = what;
                due("partOf " + i + " " + w, () -> judge.partOf(2, 0, i, w), left[i][w]);
            }
        }
        due("partOf to the right", () -> judge.partOf(2, 1, 0, 3), 5);
        due("partOf what 4", () -> judge.partOf(2, 0, 0, 4), ILLEGAL);
        due("partOf what -1", () -> judge.partOf(2, 0, 0, -1), ILLEGAL);
        due("partOf no part", () -> judge.partOf(2, 0, 4, 4), MISSING);
        due("partOf no side", () -> judge.partOf(2, 2, 0, 0), MISSING);
        due("partOf no sequent", () -> judge.partOf(9, 0, 0, 0), MISSING);
        HeapJudge list = of("a->c*ls(b,d)*b!=d|-b->e");
        int[][] unfolded = {{0, 1, 3, 0}, {0, 2, 6, 0}, {2, 6, 4, 0}};
        for (int k = 0; k < unfolded.length; k++) {
            for (int what = 0; what < 4; what++) {
                int i = k;
                int w = what;
                due("partOf list " + i + " " + w, () -> list.partOf(2, 0, i, w), unfolded[i][w]);
            }
        }
    }

    static void over() {
        due("nothing left over", () -> of("a->b|-a->b").over(), 1);
        due("void is not done", () -> of("a!=a|-emp").over(), 0);
        due("stuck", () -> of("a->b|-a->c").over(), -2);
        due("too much", () -> of("ls(a,b)*ls(b,0)|-ls(a,0)").over(), -3);
        due("the second is stuck", () -> of("tree(a)*b->c|-ls(a,0)*a=0").over(), -2);
        due("a list stays", () -> of("ls(a,b)*a->c,d*ls(d,e)|-a->c,d").over(), 1);
        HeapJudge split = of("a->b|-ls(a,b)");
        due("split", split::over, 2);
        due("the proof is stuck then", () -> split.proof(0), 0);
    }

    static void overPart() {
        HeapJudge split = of("a->b*c->d,e|-ls(a,b)");
        due("both done", split::over, 2);
        due("left over of the first", () -> split.overPart(0, NONE, 99), 2);
        due("left over of the second", () -> split.overPart(1, NONE, -7), 1);
        due("cell of the first", () -> split.overPart(0, 0, 2), 1);
        due("kind in the second", () -> split.overPart(1, 0, 0), 1);
        due("x in the second", () -> split.overPart(1, 0, 1), 3);
        due("y in the second", () -> split.overPart(1, 0, 2), 4);
        due("z in the second", () -> split.overPart(1, 0, 3), 5);
        due("overPart what 4", () -> split.overPart(0, 0, 4), ILLEGAL);
        due("overPart what -1", () -> split.overPart(0, 0, -1), ILLEGAL);
        due("overPart no part", () -> split.overPart(1, 1, 4), MISSING);
        due("overPart k -2", () -> split.overPart(1, -2, 0), MISSING);
        due("overPart no such", () -> split.overPart(2, NONE, 0), MISSING);
        due("overPart before the first", () -> split.overPart(-1, NONE, 0), MISSING);
        due("overPart of stuck", () -> of("a->b|-a->c").overPart(0, NONE, 0), MISSING);
        due("overPart of too much", () -> of("ls(a,b)*ls(b,0)|-ls(a,0)").overPart(0, NONE, 0), MISSING);
        due("overPart of none", () -> of("a!=a|-emp").overPart(0, NONE, 0), MISSING);
    }

    static void dueHeaps(String text, int all, int fitting) {
        HeapJudge judge = of(text);
        due("heaps of " + text, () -> judge.heaps(0), all);
        due("heaps of the right side, " + text, () -> judge.heaps(1), fitting);
    }

    static void heaps() {
        dueHeaps("emp|-emp", 1, 1);
        dueHeaps("ls(a,0)|-emp", 3, 1);
        dueHeaps("ls(0,a)|-emp", 1, 1);
        dueHeaps("ls(0,a)|-ls(a,0)", 1, 1);
        dueHeaps("tree(a)|-emp", 4, 1);
        dueHeaps("tree(a)|-tree(a)", 4, 4);
        dueHeaps("tree(a)*a!=0|-a->0,0", 3, 1);
        dueHeaps("a->b|-ls(a,b)", 3, 2);
        dueHeaps("a->b,c|-a->b,c", 10, 10);
        dueHeaps("a->b*b->a|-ls(a,b)*ls(b,a)", 1, 1);
        dueHeaps("a->b*b->a|-ls(a,a)", 1, 0);
        dueHeaps("ls(a,b)*ls(b,0)|-ls(a,0)", 9, 9);
        dueHeaps("emp|-a=b*c!=d", 52, 10);
        dueHeaps("emp|-a=a*b=b*c=c*d=d*e=e", 203, 203);
        dueHeaps("tree(a)*tree(b)*tree(c)*tree(d)*tree(e)|-emp", 1024, 1);
        dueHeaps("tree(a)*tree(a)|-emp", 1, 1);
        dueHeaps("a->0*a->0|-emp", 0, 0);
        HeapJudge judge = of("emp|-emp");
        due("heaps -1", () -> judge.heaps(-1), ILLEGAL);
        due("heaps 2", () -> judge.heaps(2), ILLEGAL);
    }

    static void heapsInOrder() {
        HeapJudge mixed = of("tree(a)*ls(b,0)*a!=0*b!=0|-a->0,0*ls(b,0)");
        due("six", () -> mixed.heaps(0), 6);
        due("two", () -> mixed.heaps(1), 2);
        due("the list changes faster than the tree ahead of it", () -> mixed.refused(0), 2);
        HeapJudge lists = of("ls(a,0)*ls(b,0)*a!=0*b!=0|-a->0*ls(b,0)");
        due("four", () -> lists.heaps(0), 4);
        due("the last list changes fastest", () -> lists.refused(0), 2);
        HeapJudge letters = of("emp|-a=0*b=c");
        due("the letters' order: 0, those ahead, new", () -> letters.refused(0), 1);
        due("c is told fastest", () -> letters.place(3), 1);
        HeapJudge tree = of("tree(a)*a!=0|-a->b,0*tree(b)");
        due("a, b", () -> tree.heaps(0), 9);
        due("of which fit: (0,0) with b 0", () -> tree.heaps(1), 1);
    }

    static void dueRefused(String text, int number, int cells, int pairs) {
        HeapJudge judge = of(text);
        due("refused of " + text, () -> judge.refused(0), number);
        due("cells refused of " + text, () -> judge.refused(1), cells);
        due("pairs refused of " + text, () -> judge.refused(2), pairs);
    }

    static void refused() {
        dueRefused("emp|-emp", NONE, NONE, NONE);
        dueRefused("a->0*a->0|-b->0", NONE, NONE, NONE);
        dueRefused("ls(a,0)|-emp", 1, 1, 0);
        dueRefused("ls(a,0)*a!=0|-a->0", 1, 2, 0);
        dueRefused("tree(a)*a!=0|-a->0,0", 1, 0, 2);
        dueRefused("tree(a)*b->c|-emp", 0, 1, 0);
        dueRefused("a->b|-a->b,0", 0, 1, 0);
        dueRefused("a->b,0|-a->b", 0, 0, 1);
        dueRefused("a->a|-ls(a,0)", 0, 1, 0);
        dueRefused("a->a,0|-tree(a)", 0, 0, 1);
        dueRefused("a->b,b*b->0,0*a!=b|-tree(a)", 0, 0, 2);
        dueRefused("a->b|-ls(a,b)*ls(a,b)", 0, 1, 0);
        HeapJudge judge = of("emp|-emp");
        due("refused -1", () -> judge.refused(-1), ILLEGAL);
        due("refused 3", () -> judge.refused(3), ILLEGAL);
    }

    static void place() {
        HeapJudge judge = of("ls(b,d)*b!=0*d!=0*d!=b|-b->d*e=0");
        due("not in a side", () -> judge.place(1), NONE);
        due("b", () -> judge.place(2), 1);
        due("c", () -> judge.place(3), NONE);
        due("d", () -> judge.place(4), 2);
        due("e", () -> judge.place(5), 0);
        due("its number", () -> judge.refused(0), 1);
        due("place 0", () -> judge.place(0), MISSING);
        due("place 6", () -> judge.place(6), MISSING);
        due("none refused", () -> of("a->b|-a->b").place(1), NONE);
        due("none refused, but a number that can't be", () -> of("a->b|-a->b").place(-1), MISSING);
    }

    static void print() {
        due("print of one", () -> of("a->b|-emp").print(), 9);
        due("print of two", () -> of("a->b|-a->c").print(), 4 * 31 + 9);
        due("print of void", () -> of("a!=a|-emp").print(), 0);
        long sum = 0;
        for (char step : "75251".toCharArray()) {
            sum = 31 * sum + (step - '0');
        }
        due("print of a cycle", () -> of("ls(a,b)*b->0|-ls(a,0)").print(), sum);
    }

    static void status() {
        HeapJudge judge = of("a->b|-emp");
        answer(() -> judge.part(0, 9, 9));
        answer(() -> judge.drop(3, 0));
        answer(() -> judge.place(9));
        answer(() -> judge.part(0, 0, 9));
        answer(() -> judge.text(1));
        for (int i = 0; i < 11; i++) {
            judge.feed(0, 0, 0, 0, 0);
        }
        judge.undo();
        judge.undo();
        judge.undo();
        due("missing", () -> judge.status(0), 3);
        due("illegal", () -> judge.status(1), 2);
        due("others", () -> judge.status(2), NONE);
        due("others", () -> judge.status(-1), NONE);
        due("others refuse nothing", () -> judge.status(1), 2);
    }
}
