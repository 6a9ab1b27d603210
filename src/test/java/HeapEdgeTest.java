/** The edges of HEAPS, SMALL HEAPS and REFUSED: section 3, promises 17 to 19. */
public final class HeapEdgeTest extends Due {
    public static void main(String[] args) {
        zeroIsNoPlace();
        lettersTold();
        lettersInOrder();
        fiveLetters();
        cellsOfList();
        shapesOfTree();
        listsInOrder();
        mostHeaps();
        allowedLists();
        allowedTrees();
        noPlaceHasTwo();
        claimsAreSo();
        nothingTwice();
        cellsAndPairs();
        lists();
        trees();
        heapsRefused();
        refusedNone();
        refusedFirst();
        refusedRefused();
        place();
        placeRefused();
        end();
    }

    static void dueHeaps(String text, int all, int fitting) {
        HeapJudge judge = of(text);
        due("heaps of " + text, () -> judge.heaps(0), all);
        due("heaps of the right side, " + text, () -> judge.heaps(1), fitting);
        due("is one refused, " + text, () -> judge.refused(0) == NONE ? 0 : 1, all == fitting ? 0 : 1);
    }

    /** What REFUSED is: its number, CELLS, PAIRS, and what a to e are in it. */
    static void dueRefused(String text, int... want) {
        HeapJudge judge = of(text);
        for (int what = 0; what < 3; what++) {
            int w = what;
            due("refused " + what + " of " + text, () -> judge.refused(w), want[what]);
        }
        for (int variable = 1; variable <= 5; variable++) {
            int v = variable;
            due("place " + variable + " of " + text, () -> judge.place(v),
                    variable + 2 < want.length ? want[variable + 2] : NONE);
        }
    }

    static void zeroIsNoPlace() {
        says("A HEAP: each VARIABLE is 0 or a place (0 is no place)");
        dueHeaps("0->0|-emp", 0, 0);
        dueHeaps("0->0,0|-emp", 0, 0);
        dueHeaps("0->0|-0->0", 0, 0);
        dueHeaps("a=0*a->0|-emp", 0, 0);
        dueHeaps("ls(0,a)|-emp", 1, 1);
        dueHeaps("ls(0,a)*a!=0|-emp", 0, 0);
        dueHeaps("tree(0)*ls(0,0)|-emp", 1, 1);
        dueHeaps("emp|-0->0", 1, 0);
        dueHeaps("emp|-0->0,0", 1, 0);
        dueHeaps("emp|-ls(0,a)", 2, 1);
        dueHeaps("a->0|-a->0*0->0", 1, 0);
    }

    static void lettersTold() {
        says("VARIABLES a to e, as far as they are in one SIDE or both (in a PART or CLAIM), in order are told one by one");
        String[] none = {"emp|-emp", "emp|-0=0", "0=0|-emp", "tree(0)|-ls(0,0)"};
        for (String text : none) {
            dueHeaps(text, 1, 1);
        }
        dueHeaps("0!=0|-emp", 0, 0);
        String[] one = {"a=a|-emp", "emp|-e=e", "ls(c,c)|-emp", "emp|-ls(d,d)"};
        for (String text : one) {
            dueHeaps(text, 2, 2);
        }
        dueHeaps("emp|-0->0,a", 2, 0);
        dueHeaps("emp|-0->b", 2, 0);
        dueHeaps("emp|-c!=0", 2, 1);
        dueHeaps("emp|-a=a*e=e", 5, 5);
        dueHeaps("a=a|-e=e", 5, 5);
        dueHeaps("emp|-a=a*c=c*e=e", 15, 15);
        dueHeaps("emp|-a=a*c=c*e=e*d=d", 52, 52);
        dueHeaps("emp|-a=a*c=c*e=e*d=d*b=b", 203, 203);
    }

    static void lettersInOrder() {
        says("each is 0, or one of those ahead, or a new place (in this order: 0, those ahead that are unlike, as they come,"
                + " new)");
        dueRefused("emp|-a!=0", 0, 0, 0, 0);
        dueRefused("emp|-a=0", 1, 0, 0, 1);
        dueRefused("emp|-a=0*b=0", 1, 0, 0, 0, 1);
        dueRefused("b=0|-a=0", 1, 0, 0, 1, 0);
        dueRefused("a!=0|-b=0", 1, 0, 0, 1, 1);
        dueRefused("a!=0*b!=0|-a=b", 1, 0, 0, 1, 2);
        dueRefused("a!=0*b!=0*a!=b|-c=0", 1, 0, 0, 1, 2, 1);
        dueRefused("a!=0*b!=0*a!=b*c!=0|-c=a", 1, 0, 0, 1, 2, 2);
        dueRefused("a!=0*b!=0*a!=b*c!=0*c!=a|-c=b", 1, 0, 0, 1, 2, 3);
        dueRefused("a=b*a!=0|-c!=0*d=d", 0, 0, 0, 1, 1, 0, 0);
        dueRefused("a=b*a!=0*c!=0*d!=0*d!=c|-d=a", 0, 0, 0, 1, 1, 1, 2);
        dueRefused("b=b*d!=b|-d=0*d!=0", 0, 0, 0, NONE, 0, NONE, 1);
    }

    static void fiveLetters() {
        dueRefused("a->b*b->c*c->d*d->e*e->a|-emp", 0, 5, 0, 1, 2, 3, 4, 5);
        dueHeaps("a->b*b->c*c->d*d->e*e->a|-emp", 1, 0);
        dueRefused("a->0*b->0*c->0*d->0|-emp", 0, 4, 0, 1, 2, 3, 4);
        dueRefused("e->0*d->0*c->0*b->0*a->0|-emp", 0, 5, 0, 1, 2, 3, 4, 5);
        dueRefused("a->0*b->0*c->0*d->0*e=e|-e=0*a->0*b->0*c->0*d->0", 1, 4, 0, 1, 2, 3, 4, 1);
    }

    static void cellsOfList() {
        says("then for each LIST 0, 1 or 2 CELLS");
        dueHeaps("ls(a,0)|-emp", 3, 1);
        dueHeaps("ls(a,b)|-emp", 6, 2);
        dueHeaps("ls(a,b)*a!=b|-a->b", 4, 2);
        dueHeaps("ls(a,0)|-ls(a,0)", 3, 3);
        dueRefused("ls(a,0)|-emp", 1, 1, 0, 1);
        dueRefused("ls(a,0)*a!=0|-a->0", 1, 2, 0, 1);
        dueRefused("ls(a,b)|-emp", 1, 1, 0, 1, 0);
    }

    static void shapesOfTree() {
        says("for each TREE 0 nothing, 1 a PAIR (0, 0), 2 a PAIR with another one (0, 0) as its first, 3 as its second number");
        dueHeaps("tree(a)|-emp", 4, 1);
        dueHeaps("tree(a)*a!=0|-a->0,0", 3, 1);
        dueHeaps("tree(a)|-tree(a)", 4, 4);
        dueRefused("tree(a)|-emp", 1, 0, 1, 1);
        dueRefused("tree(a)*a!=0|-a->0,0", 1, 0, 2, 1);
        says("what it has besides is new places, each unlike");
        dueHeaps("tree(a)*tree(b)*a!=0*b!=0|-tree(a)*tree(b)", 9, 9);
        dueHeaps("ls(a,b)*ls(c,b)*a!=b*c!=b|-ls(a,b)*ls(c,b)", 8, 8);
        dueHeaps("tree(a)*a!=0|-a->b,0*tree(b)", 9, 1);
        dueHeaps("ls(a,0)*a!=0|-a->b*ls(b,0)", 6, 1);
        dueHeaps("tree(a)*b=b|-tree(a)*b!=a", 4 + 1 + 3 + 3, 1 + 6);
    }

    static void listsInOrder() {
        says("(the first told ahead, the last one changing fastest)");
        dueRefused("ls(a,0)*ls(b,0)*a!=0*b!=0|-a->0*ls(b,0)", 2, 3, 0, 1, 2);
        dueRefused("ls(a,0)*ls(b,0)*a!=0*b!=0|-ls(a,0)*b->0", 1, 3, 0, 1, 2);
        dueRefused("ls(b,0)*ls(a,0)*a!=0*b!=0|-a->0*ls(b,0)", 1, 3, 0, 1, 2);
        dueRefused("tree(a)*tree(b)*a!=0*b!=0|-a->0,0*tree(b)", 3, 0, 3, 1, 2);
        dueRefused("tree(a)*tree(b)*a!=0*b!=0|-tree(a)*b->0,0", 1, 0, 3, 1, 2);
        dueRefused("ls(a,0)*tree(b)*a!=0*b!=0|-a->0*tree(b)", 3, 2, 1, 1, 2);
        dueRefused("ls(a,0)*tree(b)*a!=0*b!=0|-ls(a,0)*b->0,0", 1, 1, 2, 1, 2);
    }

    static void mostHeaps() {
        String trees = "tree(a)*tree(b)*tree(c)*tree(d)*tree(e)";
        String lists = "ls(a,0)*ls(b,0)*ls(c,0)*ls(d,0)*ls(e,0)";
        String unlike = "*a!=0*b!=0*c!=0*d!=0*e!=0";
        dueHeaps(trees + "|-" + trees, 1024, 1024);
        dueHeaps(trees + unlike + "|-" + trees, 243, 243);
        dueHeaps(lists + "|-" + lists, 243, 243);
        dueHeaps(lists + unlike + "|-" + lists, 32, 32);
        dueHeaps(trees + "|-emp", 1024, 1);
        dueHeaps(lists + "|-emp", 243, 1);
        dueHeaps("ls(a,b)*ls(b,c)*ls(c,d)*ls(d,e)*ls(e,0)|-ls(a,0)", 243, 243);
        dueHeaps("a->b,c*b->d,e*tree(c)*tree(d)*tree(e)|-tree(a)", 64, 64);
        dueHeaps("a->b,c*b->d,e*tree(c)*tree(d)*tree(e)*c!=0*d!=0*e!=0|-tree(a)", 27, 27);
        dueRefused(trees + unlike + "|-emp", 0, 0, 5, 1, 2, 3, 4, 5);
        dueRefused(trees + "|-emp", 1, 0, 1, 0, 0, 0, 0, 1);
    }

    static void allowedLists() {
        says("It is one, if the left side allows it (a LIST has 0 just if x is y, a TREE just if x is 0; CLAIMS are so; no"
                + " place has two; a LIST's CELLS do not lie AT y).");
        dueHeaps("ls(a,a)|-emp", 2, 2);
        dueHeaps("ls(0,0)|-emp", 1, 1);
        dueHeaps("ls(a,b)*a=b|-emp", 2, 2);
        dueHeaps("ls(a,b)*a!=b|-emp", 4, 0);
        dueHeaps("ls(a,b)*a=0|-b=0", 1, 1);
    }

    static void allowedTrees() {
        dueHeaps("tree(0)|-emp", 1, 1);
        dueHeaps("tree(a)*a=0|-emp", 1, 1);
        dueHeaps("tree(a)*a!=0|-emp", 3, 0);
    }

    static void noPlaceHasTwo() {
        says("no place has two");
        dueHeaps("a->0*a->0|-emp", 0, 0);
        dueHeaps("a->0*a->0,0|-emp", 0, 0);
        dueHeaps("a->0*b->0|-emp", 1, 0);
        dueHeaps("a->0*b->0*a=b|-emp", 0, 0);
        dueHeaps("ls(a,0)*ls(a,0)|-emp", 1, 1);
        dueHeaps("tree(a)*tree(a)|-emp", 1, 1);
        dueHeaps("ls(a,0)*ls(b,0)|-emp", 9, 1);
        dueHeaps("tree(a)*ls(a,0)|-emp", 1, 1);
        dueHeaps("tree(a)*ls(a,b)|-emp", 4, 1);
        dueHeaps("a->b*ls(a,b)|-a->b", 1, 1);
        dueHeaps("ls(a,b)*ls(b,a)|-emp", 2 + 4, 2);
        dueHeaps("a->0*tree(a)|-emp", 0, 0);
    }

    static void claimsAreSo() {
        says("if its CLAIMS are so");
        dueHeaps("a=b|-emp", 2, 2);
        dueHeaps("a!=b|-emp", 3, 3);
        dueHeaps("emp|-a=b", 5, 2);
        dueHeaps("emp|-a!=b", 5, 3);
        dueHeaps("a!=a|-emp", 0, 0);
        dueHeaps("emp|-a!=a", 2, 0);
        dueHeaps("a=0*a!=0|-emp", 0, 0);
        dueHeaps("a=b*b=c*c=d*d=e*e=0*a=0|-emp", 1, 1);
        dueHeaps("emp|-a=b*b=c*c=d*d=e*e=0*a!=0", 203, 0);
        dueHeaps("emp|-a=b*b=c*c=d*d=e*e=0*a=0", 203, 1);
    }

    static void nothingTwice() {
        says("all that it has is made of what its PARTS have, nothing twice");
        dueHeaps("a->0|-a->0*a->0", 1, 0);
        dueHeaps("a->0|-emp", 1, 0);
        dueHeaps("a->0*b->0|-a->0", 1, 0);
        dueHeaps("a->0|-a->0*ls(a,0)", 1, 0);
        dueHeaps("a->0|-ls(a,0)*ls(a,0)", 1, 0);
        dueHeaps("a->0,0|-tree(a)*tree(a)", 1, 0);
        dueHeaps("a->b,b*b->0,0|-tree(a)", 1, 0);
        dueHeaps("a->b,0*b->0,0|-tree(a)*tree(b)", 1, 0);
        dueHeaps("emp|-a->0", 2, 0);
    }

    static void cellsAndPairs() {
        says("a CELL, a PAIR that just at x, with those");
        dueHeaps("a->b|-a->b", 3, 3);
        dueHeaps("a->b|-a->0", 3, 1);
        dueHeaps("a->b|-a->a", 3, 1);
        dueHeaps("a->b,c|-a->b,c", 10, 10);
        dueHeaps("a->b,c|-a->c,b", 10, 3);
        dueHeaps("a->b|-a->b,b", 3, 0);
        dueHeaps("a->b,b|-a->b", 3, 0);
        dueHeaps("a->b|-b->a", 3, 1);
    }

    static void lists() {
        says("a LIST nothing, if x is y, else a CELL at x, and what a LIST from its number to y has");
        dueHeaps("emp|-ls(a,b)", 5, 2);
        dueHeaps("a->a|-ls(a,a)", 1, 0);
        dueHeaps("a->a|-a->a*ls(a,a)", 1, 1);
        dueHeaps("a->b*b->a|-ls(a,b)*ls(b,a)", 1, 1);
        dueHeaps("a->b*b->a|-ls(a,a)", 1, 0);
        dueHeaps("a->b*b->0|-ls(a,0)", 1, 1);
        dueHeaps("a->b*b->c|-ls(a,c)", 4, 2);
        dueHeaps("a->0|-ls(a,b)", 3, 1);
        dueHeaps("a->a|-ls(a,0)", 1, 0);
        dueHeaps("a->b*b->a|-ls(a,0)", 1, 0);
        dueHeaps("a->0,0|-ls(a,0)", 1, 0);
        dueHeaps("a->b*b->0,0|-ls(a,0)", 1, 0);
        dueHeaps("a->b*b->c*c->d*d->e*e->0|-ls(a,0)", 1, 1);
        dueHeaps("a->b*b->c*c->d*d->e*e->a|-ls(a,0)", 1, 0);
        dueHeaps("a->b*b->c*c->d*d->e*e->a|-ls(a,e)*e->a", 1, 1);
    }

    static void trees() {
        says("a TREE nothing, if x is 0, else a PAIR at x, and what TREES at both its numbers have");
        dueHeaps("emp|-tree(a)", 2, 1);
        dueHeaps("a->0,0|-tree(a)", 1, 1);
        dueHeaps("a->0|-tree(a)", 1, 0);
        dueHeaps("a->a,0|-tree(a)", 1, 0);
        dueHeaps("a->0,a|-tree(a)", 1, 0);
        dueHeaps("a->b,c*b->0,0*c->0,0|-tree(a)", 1, 1);
        dueHeaps("a->b,c*b->0,0*c->0|-tree(a)", 1, 0);
        dueHeaps("a->b,c|-tree(a)", 10, 1);
        dueHeaps("a->b,c*b->0,0|-tree(a)", 4, 1);
        dueHeaps("a->b,c*b->d,e*c->0,0*d->0,0*e->0,0|-tree(a)", 1, 1);
        dueHeaps("a->b,c*b->d,e*c->0,0*d->0,0*e->0,a|-tree(a)", 1, 0);
        dueHeaps("a->b,0*b->c,0*c->d,0*d->e,0*e->0,0|-tree(a)", 1, 1);
        dueHeaps("a->0,b*b->0,c*c->0,d*d->0,e*e->0,0|-tree(a)", 1, 1);
    }

    static void heapsRefused() {
        says("`int heaps(int what) throws IllegalArgumentException`");
        HeapJudge judge = of("a->b|-ls(a,b)");
        due("heaps -1", () -> judge.heaps(-1), ILLEGAL);
        due("heaps 2", () -> judge.heaps(2), ILLEGAL);
        for (int what : FAR) {
            due("heaps " + what, () -> judge.heaps(what), ILLEGAL);
        }
        due("refused so often", () -> judge.status(1), 2 + FAR.length);
        due("heaps 0", () -> judge.heaps(0), 3);
        due("heaps 1", () -> judge.heaps(1), 2);
    }

    static void refusedNone() {
        says("REFUSED: 0 its number among SMALL HEAPS (NONE: there is none; of the others, too), 1 places that have a CELL, 2"
                + " that have a PAIR.");
        String[] texts = {"emp|-emp", "a->b|-a->b", "0->0|-a->b", "a!=a|-b->c", "a->0*a->0|-emp"};
        for (String text : texts) {
            dueRefused(text, NONE, NONE, NONE);
        }
    }

    static void refusedFirst() {
        says("REFUSED: the first such HEAP that is none of the right side.");
        dueRefused("a->b|-emp", 0, 1, 0, 1, 0);
        dueRefused("a->b|-ls(a,b)", 1, 1, 0, 1, 1);
        dueRefused("a->b|-b=0*a->b", 1, 1, 0, 1, 1);
        dueRefused("a->b|-a->b*b=b*a=a*b!=c", 0, 1, 0, 1, 0, 0);
        dueRefused("a->0*b->0,0*ls(c,0)*tree(d)*c!=0*d!=0|-emp", 0, 2, 2, 1, 2, 3, 4);
        dueRefused("emp|-a->0", 0, 0, 0, 0);
        dueRefused("a->b*b->c*c->0,0*d->0,0*e->0,0|-emp", 0, 2, 3, 1, 2, 3, 4, 5);
    }

    static void refusedRefused() {
        says("`int refused(int what) throws IllegalArgumentException`");
        HeapJudge judge = of("a->b|-a->b");
        due("refused -1", () -> judge.refused(-1), ILLEGAL);
        due("refused 3", () -> judge.refused(3), ILLEGAL);
        for (int what : FAR) {
            due("refused " + what, () -> judge.refused(what), ILLEGAL);
        }
        due("refused so often", () -> judge.status(1), 2 + FAR.length);
    }

    static void place() {
        says("What a VARIABLE (1 to 5) is in REFUSED: 0, or which place (from 1 on, as they come as VARIABLES); NONE: there is no"
                + " such HEAP, or it is in no SIDE.");
        dueRefused("e->d*c=e|-emp", 0, 1, 0, NONE, NONE, 1, 0, 1);
        dueRefused("b->d|-e=0", 0, 1, 0, NONE, 1, NONE, 0, 0);
        dueRefused("b->e*e!=0*b!=e|-b->0", 0, 1, 0, NONE, 1, NONE, NONE, 2);
        dueRefused("a=a*b=b*c=c*d=d*e=e|-0!=0", 0, 0, 0, 0, 0, 0, 0, 0);
        HeapJudge judge = of("a->b|-emp");
        due("a", () -> judge.place(1), 1);
        judge.drop(0, 0);
        due("none of it is left", () -> judge.place(1), NONE);
        judge.undo();
        due("there again", () -> judge.place(1), 1);
    }

    static void placeRefused() {
        says("NoSuchElementException: another number.");
        HeapJudge judge = of("a->b|-emp");
        due("place 0", () -> judge.place(0), MISSING);
        due("place -1", () -> judge.place(-1), MISSING);
        due("place 6", () -> judge.place(6), MISSING);
        for (int variable : FAR) {
            due("place " + variable, () -> judge.place(variable), MISSING);
        }
        due("refused so often", () -> judge.status(0), 3 + FAR.length);
        due("none for another reason", () -> judge.status(1), 0);
        due("with no such heap", () -> of("emp|-emp").place(6), MISSING);
    }
}
