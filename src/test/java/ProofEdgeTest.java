/** The edges of a PROOF and of what is LEFT OVER: section 2, promises 12 to 16 and 20. */
public final class ProofEdgeTest extends Due {
    /** Six CLAIMS of which none goes. */
    private static final String SIX = "*a=b*a=c*a=d*a=e*b=c*b=d";
    /** Found by search: its PROOF has 300 SEQUENTS, the most there may be. */
    private static final String JUST_300 = "ls(b,e)*ls(c,e)*ls(b,0)*ls(e,0)*ls(a,c)*e!=b"
            + "|-ls(d,b)*ls(a,d)*tree(b)*e!=e*d=a";
    /** Found by search: without a limit their PROOFS would have 301 SEQUENTS, all closed. */
    private static final String[] JUST_301 = {
        "tree(d)*ls(e,c)*ls(a,c)*ls(c,a)*ls(d,b)*b!=c*c!=d*b!=d"
                + "|-ls(e,b)*ls(b,e)*ls(e,b)*tree(c)*d->c*c!=0*c!=b*d!=0*d!=a*d!=d*c!=e",
        "ls(a,0)*ls(e,c)*ls(c,d)*tree(c)*ls(b,a)*0!=a*d!=c*a!=e"
                + "|-ls(b,d)*ls(d,b)*ls(b,d)*ls(a,d)*ls(e,0)*a!=e*c!=0",
        "ls(b,d)*ls(d,c)*tree(e)*ls(e,0)*ls(c,0)*0!=b*d!=0*e!=0*0!=b"
                + "|-ls(b,a)*a->d*ls(c,b)*ls(d,a)*ls(e,b)*a!=a"};
    /** A proof in which DIFFERS keep the first way round from being a CYCLE, and 6 is free again ahead of 7. */
    private static final String LONGER = "ls(e,0)*tree(b)*ls(c,d)*d!=c*b=c|-ls(e,a)*ls(c,e)";

    public static void main(String[] args) {
        atFirst();
        make();
        knownToDiffer();
        voidToTheLeft();
        voidComesFirst();
        readyInOrder();
        readyToTheLeft();
        readyToTheRight();
        readyDiffers();
        stepsInOrder();
        firstToTheRight();
        thenToTheLeft();
        done();
        match();
        meet();
        fold();
        split();
        unfoldList();
        unfoldTree();
        fresh();
        empty();
        stuck();
        cycle();
        alike();
        waysInOrder();
        sequents300();
        sequents301();
        partsOfSequent();
        partsAsTheyCome();
        partsToTheRight();
        claimsOfSequent();
        claimsAsTheyCome();
        variablesOfProof();
        leftOver();
        leftOverNone();
        proofAsked();
        proofRefused();
        sequentAsked();
        sequentRefused();
        partOfRefused();
        overPartAsked();
        overPartRefused();
        print();
        shortAfterLong();
        end();
    }

    static void atFirst() {
        says("At first: of the left CLAIMS those by != are DIFFERS, those by = are made so.");
        dueSequent("a!=b*b!=a*a!=0*ls(a,b)|-emp", 0, "ls(a,b) |-  0 2");
        dueSequent("a=b*ls(c,b)|-ls(b,c)*b=d", 0, "ls(c,a) |- ls(a,c) 1 0");
        dueSequent("d=e*c=e*e->0|-e->d*d=b", 0, "c->0 |- c->c 1 0");
        dueSequent("e=d*d=c*c=b*b=a*e->d|-c->b", 0, "a->a |- a->a 0 0");
        dueSequent("a=a*0=0*ls(a,b)|-emp", 0, "ls(a,b) |-  0 0");
        dueSequent("a!=b*a=b|-emp", 0, " |-  0 1");
        dueSequent("emp|-a=b*a!=b*c=0", 0, " |-  3 0");
        dueSteps("a!=b*a=b|-a->b", "0", 1);
        dueSteps("0=a*a!=0|-a->b", "0", 1);
    }

    static void make() {
        says("To MAKE x = y: the greater number becomes the lesser one everywhere.");
        dueSequent("a=e*e->a,e|-ls(e,b)", 0, "a->a,a |- ls(a,b) 0 0");
        dueSequent("e=a*e->a,e|-ls(e,b)", 0, "a->a,a |- ls(a,b) 0 0");
        dueSequent("e=0*ls(a,e)*tree(b)|-b->e,e", 0, "ls(a,0)*tree(b) |- b->0,0 0 0");
        dueSequent("a=b*a!=c*b!=c*ls(b,c)|-emp", 0, "ls(a,c) |-  0 1");
        says("DIFFERS are pairs without order, each once.");
        dueSequent("a!=b*b!=a*a!=b*ls(a,b)|-emp", 0, "ls(a,b) |-  0 1");
        dueSequent("a!=b*b!=a*b!=c*c!=b*ls(a,b)*ls(c,0)|-emp", 0, "ls(a,b)*ls(c,0) |-  0 2");
    }

    static void knownToDiffer() {
        says("KNOWN to differ: a pair of DIFFERS; 0 and where a CELL or PAIR is AT to the left; where two CELLS or PAIRS"
                + " are AT.");
        dueSteps("a!=b|-a!=b", "2", 1);
        dueSteps("a!=b|-b!=a", "2", 1);
        dueSteps("a!=0|-0!=a", "2", 1);
        dueSteps("a->b|-a->b*a!=0", "32", 1);
        dueSteps("a->b|-a->b*0!=a", "32", 1);
        dueSteps("a->b,c|-a->b,c*a!=0", "32", 1);
        dueSteps("a->0*b->0|-a->0*b->0*a!=b", "332", 1);
        dueSteps("a->0*b->0,0|-a->0*b->0,0*b!=a", "332", 1);
        dueSteps("a->0,0*b->0,0|-a->0,0*b->0,0*a!=b", "332", 1);
        dueSteps("ls(a,b)|-ls(a,b)*a!=0", "39", 0);
        dueSteps("tree(a)|-tree(a)*a!=0", "39", 0);
        dueSteps("a->0*ls(b,0)|-a->0*ls(b,0)*a!=b", "339", 0);
        dueSteps("a->0*tree(b)|-a->0*tree(b)*a!=b", "339", 0);
        dueSteps("a->b|-a->b*b!=0", "39", 0);
        dueSteps("a->b|-a->b*a!=b", "39", 0);
        dueSteps("a->0|-a->0*a!=a", "39", 0);
        dueSteps("emp|-0!=0", "9", 0);
        dueSteps("emp|-a->0*a!=0", "9", 0);
        dueSteps("a!=b*b!=c|-a!=c", "9", 0);
    }

    static void voidToTheLeft() {
        says("VOID (it is closed): a pair of DIFFERS with itself; a CELL, PAIR AT 0; of CELLS and PAIRS two AT one, or one"
                + " and a TREE AT one (all to the left).");
        String[] left = {"a!=a", "0!=0", "0->a", "0->a,b", "a->b*a->c", "a->b*a->b", "a->b*a->b,c", "a->b,c*a->b",
            "a->b,c*a->b,c", "a->b*tree(a)", "tree(a)*a->b", "a->b,c*tree(a)", "tree(a)*a->b,c",
            "b->0*a->0*c->0*a->0"};
        for (String one : left) {
            dueSteps(one + "|-emp", "0", 1);
            dueSteps(one + "|-e->d", "0", 1);
        }
        String[] right = {"a!=a", "0!=0", "0->a", "0->a,b", "a->b*a->c", "a->b*a->b,c", "a->b,c*a->b,c"};
        for (String one : right) {
            dueSteps("emp|-" + one, "9", 0);
        }
        dueSteps("emp|-a->b*tree(a)", "89", 0);
        dueSteps("ls(a,b)*ls(a,b)|-ls(a,b)*ls(a,b)", "332", 1);
        dueSteps("ls(a,b)*tree(a)|-tree(a)*ls(a,b)", "332", 1);
        dueSteps("ls(a,b)*a->b|-a->b*a=b", "32", 1);
        dueSteps("a->b*b->a|-a->b*b->a", "332", 1);
    }

    static void voidComesFirst() {
        says("Of a SEQUENT of the PROOF (as it was READY; VOID: as it was then)");
        dueSequent("ls(a,a)*tree(0)*b!=b|-ls(c,c)*d=d", 0, "ls(a,a)*tree(0) |- ls(c,c) 1 1");
        dueSequent("ls(0,a)*a->b|-ls(c,c)", 0, "ls(0,0)*0->b |- ls(c,c) 0 0");
        dueSequent("ls(a,b)*a->c*b->d*ls(e,e)|-ls(a,a)", 0, "ls(a,a)*a->c*a->d |- ls(a,a) 0 0");
        dueSequent("tree(a)*tree(a)*a!=0|-tree(0)", 0, "tree(0)*tree(0) |- tree(0) 0 1");
        dueSequent("a=b*b!=c*d!=d|-emp", 0, " |-  0 2");
        due("the greatest of one that is void", () -> of("ls(e,e)*d!=d|-emp").proof(3), 5);
        due("the greatest to the right of it", () -> of("0->a|-d->0").proof(3), 4);
    }

    /** What is VOID in the end tells what was done ahead of it, and what was not. */
    static void readyInOrder() {
        says("READY it is made by the first of these that can be done, again and again");
        dueSequent("ls(b,b)*ls(0,a)*a->c|-emp", 0, "ls(0,0)*0->c |-  0 0");
        dueSequent("ls(b,c)*b->d*ls(0,a)*a->e|-emp", 0, "ls(b,c)*b->d*ls(0,0)*0->e |-  0 0");
        dueSequent("tree(a)*tree(a)*a!=0*ls(b,c)*b->d|-emp", 0, "tree(0)*tree(0)*b->d |-  0 1");
        dueSequent("tree(a)*tree(a)*a!=0|-ls(c,c)*d=d", 0, "tree(0)*tree(0) |- ls(c,c) 1 1");
        dueSequent("ls(0,a)*ls(0,b)*a->0*b->0|-emp", 0, "ls(0,0)*ls(0,b)*0->0*b->0 |-  0 0");
        dueSequent("ls(a,c)*ls(b,d)*a->0*b->0*c->0|-emp", 0, "ls(a,a)*ls(b,d)*a->0*b->0*a->0 |-  0 0");
        dueSequent("ls(b,d)*ls(a,c)*a->0*b->0*c->0|-emp", 0, "ls(a,a)*a->0*b->0*a->0 |-  0 0");
        dueSequent("tree(b)*tree(a)*tree(a)*tree(b)*b!=0|-emp", 0, "tree(0)*tree(a)*tree(a)*tree(0) |-  0 1");
    }

    static void readyToTheLeft() {
        says("To the left a LIST from x to x, a TREE at 0 goes (the first such). A LIST from 0 to y: make y = 0. A LIST from"
                + " x to y where a CELL or PAIR is AT x: make x = y. Two TREES at x: make x = 0.");
        dueSequent("ls(a,a)*b->c*tree(0)*ls(0,0)*ls(e,e)|-emp", 0, "b->c |-  0 0");
        dueSequent("ls(0,b)*ls(b,c)*ls(c,d)*tree(d)|-d=0*tree(b)", 0, " |-  0 0");
        dueSequent("ls(0,b)*ls(c,b)|-ls(b,c)", 0, "ls(c,0) |- ls(0,c) 0 0");
        dueSequent("ls(a,b)*a->c|-ls(b,d)", 0, "a->c |- ls(a,d) 0 0");
        dueSequent("ls(b,a)*b->c,b|-ls(b,d)", 0, "a->c,a |- ls(a,d) 0 0");
        dueSequent("a->c*ls(a,b)*ls(b,d)|-b=d*e->0", 0, "a->c |- e->0 0 0");
        dueSequent("ls(b,a)*a->c|-emp", 0, "ls(b,a)*a->c |-  0 0");
        dueSequent("tree(b)*ls(a,c)*tree(b)|-ls(b,a)", 0, "ls(a,c) |- ls(0,a) 0 0");
        dueSequent("tree(b)*tree(b)*tree(b)|-b=0", 0, " |-  0 0");
        dueSequent("tree(a)*tree(b)|-emp", 0, "tree(a)*tree(b) |-  0 0");
        dueSequent("ls(a,b)*ls(a,b)|-emp", 0, "ls(a,b)*ls(a,b) |-  0 0");
        dueSteps("tree(a)*tree(a)*a!=0|-emp", "0", 1);
        dueSteps("ls(0,a)*a!=0|-emp", "0", 1);
        dueSteps("ls(a,b)*a->c*a!=b|-emp", "0", 1);
    }

    static void readyToTheRight() {
        says("To the right a LIST from x to x, a TREE at 0 goes (the first such); a CLAIM x = x, and x != y that are KNOWN"
                + " to differ, goes (the first such).");
        dueSequent("emp|-ls(a,a)*tree(0)*ls(0,0)*b->c*ls(e,e)", 0, " |- b->c 0 0");
        dueSequent("emp|-ls(0,a)*tree(a)*tree(a)*ls(b,0)*b->c", 0, " |- ls(0,a)*tree(a)*tree(a)*ls(b,0)*b->c 0 0");
        dueSequent("a!=b*ls(a,b)|-a=a*b!=a*a=b*0=0*a!=b*a!=c", 0, "ls(a,b) |-  2 1");
        dueSequent("emp|-a!=a*a=b*b=a*0!=0", 0, " |-  4 0");
    }

    static void readyDiffers() {
        says("A pair of DIFFERS of which one is not 0 and in no PART of both sides, in no CLAIM: goes.");
        dueSequent("a!=b|-emp", 0, " |-  0 0");
        dueSequent("a!=0|-emp", 0, " |-  0 0");
        dueSequent("a!=0|-a=b", 0, " |-  1 1");
        dueSequent("a!=0|-c->a", 0, " |- c->a 0 1");
        dueSequent("a!=0|-c->0,a", 0, " |- c->0,a 0 1");
        dueSequent("a!=0*b->c,a|-emp", 0, "b->c,a |-  0 1");
        dueSequent("a!=b|-a=c", 0, " |-  1 0");
        dueSequent("a!=b*tree(a)|-emp", 0, "tree(a) |-  0 0");
        dueSequent("b!=a*tree(a)|-emp", 0, "tree(a) |-  0 0");
        dueSequent("a!=b*tree(a)|-b!=c", 0, "tree(a) |-  1 1");
        dueSequent("a!=b*ls(a,a)|-b!=c", 0, " |-  1 0");
        dueSequent("a!=b|-a!=b", 0, " |-  0 0");
        due("pairs that went are not told", () -> of("d!=e|-emp").proof(3), 0);
    }

    static void stepsInOrder() {
        says("Then the first STEP that can be done");
        dueSteps("a!=a|-emp", "0", 1);
        dueSteps("a->b*c->d|-a->e*c->d", "349", 0);
        dueSteps("a->b*c->d*a!=b|-ls(a,b)*c->e", "459", 0);
        dueSteps("a->b*c->d*c!=d|-ls(a,b)*ls(c,d)", "569", 0);
        dueSteps("ls(a,b)*c->d|-ls(a,e)*ls(c,d)", "6789", 0);
        dueSteps("tree(a)|-ls(b,c)*ls(a,0)", "789", 0);
        dueSteps("emp|-b->c*ls(a,b)", "89", 0);
    }

    static void firstToTheRight() {
        says("(of several of its kind by the first PART to the right, then to the left)");
        dueSequent("a->b*c->d|-c->d*a->b", 1, "a->b |- a->b 0 0");
        dueSequent("a->b*c->d|-c->e*a->e", 1, "a->b |- a->e 1 0");
        dueSequent("a->b*c->d*a!=b*c!=d|-ls(c,d)*ls(a,b)", 1, "a->b |- ls(a,b) 0 1");
        dueSequent("a->0,0*b->0,0|-tree(b)*tree(a)", 1, "a->0,0 |- tree(a) 0 0");
        dueSequent("a->b*c->d|-ls(c,d)*ls(a,b)", 1, "a->b*c->c |- ls(a,b) 0 0");
        dueSequent("tree(a)*tree(b)|-ls(b,c)*ls(a,c)", 1, "tree(a) |- ls(0,c)*ls(a,c) 0 0");
        dueSequent("emp|-tree(a)*ls(b,c)", 1, " |- ls(b,c) 1 0");
        dueSequent("emp|-ls(b,c)*tree(a)", 1, " |- tree(a) 1 0");
    }

    static void thenToTheLeft() {
        dueSequent("ls(a,b)*c->d*ls(a,b)|-ls(a,b)*e->0", 1, "c->d*ls(a,b) |- e->0 0 0");
        dueSequent("ls(a,b)*ls(a,c)*a!=b|-a->d", 2, "a->6*ls(6,b) |- a->d 0 1");
        dueSequent("ls(a,c)*ls(a,b)*a!=c|-a->d", 2, "a->6*ls(6,c) |- a->d 0 1");
        dueSequent("tree(a)*ls(a,b)*a!=0|-a->d,e", 2, "a->6,7*tree(6)*tree(7) |- a->d,e 0 1");
        dueSteps("ls(a,b)*tree(a)*a!=b|-a->d,e", "700", 1);
    }

    static void done() {
        says("2 DONE: nothing is to the right, no PART to the left: closed.");
        dueSteps("emp|-emp", "2", 1);
        dueSteps("a!=b|-emp", "2", 1);
        dueSteps("ls(a,a)*tree(0)|-ls(b,b)*c=c", "2", 1);
        dueSteps("a->b|-emp", "9", 0);
        dueSteps("ls(a,b)|-emp", "9", 0);
        dueSteps("tree(a)|-emp", "9", 0);
        dueSteps("emp|-a=b", "9", 0);
        dueSteps("emp|-a->b", "9", 0);
    }

    static void match() {
        says("3 MATCH: a PART to the right is also to the left: both go.");
        String[] parts = {"a->b", "a->b,c", "ls(a,b)", "tree(a)"};
        for (String part : parts) {
            dueSteps(part + "|-" + part, "32", 1);
        }
        dueSteps("a->b|-a->b*a->b", "39", 0);
        dueSteps("ls(a,b)|-ls(b,a)", "89", 0);
        dueSteps("a->b,c|-a->c,b", "49", 0);
        dueSequent("d->0*a->b*e->0|-c->0*a->b*b->0", 1, "d->0*e->0 |- c->0*b->0 0 0");
    }

    static void meet() {
        says("4 MEET: a CELL (PAIR) to the right, one AT the same to the left: both go; to the right comes (behind all"
                + " CLAIMS) the CLAIM that their numbers are one (left one = right one; both, in order).");
        dueSequent("a->b|-a->c*d=e", 1, " |-  2 0");
        dueSequent("a->b,c|-a->d,e*d=e", 1, " |-  3 0");
        dueSequent("a->b,c|-a->b,e*d=e", 1, " |-  2 0");
        dueSequent("a->b,c|-a->d,c*d=e", 1, " |-  2 0");
        dueSteps("a->b*b=c|-a->c", "32", 1);
        dueSteps("a->b|-a->b,c", "9", 0);
        dueSteps("a->b,c|-a->b", "9", 0);
        dueSteps("a->b*c->d|-a->d", "49", 0);
    }

    static void fold() {
        says("5 FOLD: a LIST from x to y to the right, a CELL x -> u to the left, x and y KNOWN to differ: the CELL goes, it"
                + " is a LIST from u to y (in its place); a TREE at x, a PAIR x -> u, v: it goes, in its place are TREES"
                + " at u and at v.");
        dueSequent("a->b*a!=c|-ls(0,d)*ls(a,c)*e->0", 1, " |- ls(0,d)*ls(b,c)*e->0 0 0");
        dueSequent("a->b*c->0|-ls(a,c)*e->0", 1, "c->0 |- ls(b,c)*e->0 0 0");
        dueSequent("a->b|-ls(a,0)*e->0", 1, " |- ls(b,0)*e->0 0 0");
        dueSequent("a->b,c|-tree(d)*tree(a)*tree(e)", 1, " |- tree(d)*tree(b)*tree(c)*tree(e) 0 0");
        dueSequent("a->0,c|-tree(a)*e->0", 1, " |- tree(c)*e->0 0 0");
        dueSequent("a->b,b|-tree(a)*e->0", 1, " |- tree(b)*tree(b)*e->0 0 0");
        dueSteps("a->0,0|-tree(a)", "52", 1);
        dueSteps("a->0|-ls(a,0)", "52", 1);
        dueSteps("a->b|-tree(a)", "89", 0);
        dueSteps("a->b,c|-ls(a,0)", "89", 0);
        dueSteps("a->a|-ls(a,0)", "589", 0);
    }

    static void split() {
        says("6 SPLIT: a LIST from x to y to the right, a CELL AT x: two SEQUENTS: x = y made; x and y are in DIFFERS.");
        dueSteps("a->b|-ls(a,b)", "69", 0);
        dueSequent("a->b|-ls(a,b)", 1, "a->a |-  0 0");
        dueSequent("c->a|-ls(c,b)", 1, "b->a |-  0 0");
        String both = "a->b*tree(c)|-ls(a,c)";
        dueSteps(both, "60589", 0);
        dueSequent(both, 1, "a->b*tree(a) |- ls(a,a) 0 0");
        dueSequent(both, 2, "a->b*tree(c) |- ls(a,c) 0 1");
        dueSequent(both, 3, "tree(c) |- ls(b,c) 0 0");
        due("a pair is no cell", () -> of("a->b,c|-ls(a,d)").sequent(0, 0), 8);
        due("a cell at y is none", () -> of("b->a|-ls(a,b)").sequent(0, 0), 8);
        due("a tree is no list", () -> of("a->b|-tree(a)").sequent(0, 0), 8);
    }

    static void unfoldList() {
        says("7 UNFOLD: a PART to the right AT x, a LIST from x to y or TREE at x to the left: two SEQUENTS: of a LIST x = y"
                + " made; x and y are in DIFFERS, and in its place are a CELL x -> u and a LIST from u to y");
        dueSequent("c->0*ls(a,b)*b->0|-ls(a,0)*c->0", 1, "ls(a,b)*b->0 |- ls(a,0) 0 0");
        dueSequent("d->e*ls(b,a)*a->0|-ls(b,0)*c->0", 1, "d->e*a->0 |- ls(a,0)*c->0 0 0");
        String text = "c->d*ls(a,b)*e->0*a!=b|-a->0,0";
        dueSequent(text, 1, "c->d*ls(a,a)*e->0 |- a->0,0 0 1");
        dueSequent(text, 2, "c->d*a->6*ls(6,b)*e->0 |- a->0,0 0 1");
        String[] right = {"a->0", "a->0,0", "ls(a,c)", "tree(a)"};
        for (String one : right) {
            due("by " + one, () -> of("ls(a,b)|-" + one).sequent(0, 0), 7);
        }
        due("not by y", () -> of("ls(b,a)|-a->0").sequent(0, 0), 9);
        due("not by a claim", () -> of("ls(a,b)|-a=b").sequent(0, 0), 9);
    }

    static void unfoldTree() {
        says("Of a TREE: x = 0 made; in its place are a PAIR x -> u, v, TREES at u, at v (u, then v fresh).");
        String text = "c->d*tree(a)*e->0*a!=0|-a->0";
        dueSequent(text, 1, "c->d*tree(0)*e->0 |- 0->0 0 1");
        dueSequent(text, 2, "c->d*a->6,7*tree(6)*tree(7)*e->0 |- a->0 0 1");
        dueSequent("tree(a)|-ls(a,0)", 2, "a->6,7*tree(6)*tree(7) |- ls(a,0) 0 0");
        String[] right = {"a->0", "a->0,0", "ls(a,c)"};
        for (String one : right) {
            due("by " + one, () -> of("tree(a)|-" + one).sequent(0, 0), 7);
        }
    }

    static void fresh() {
        says("(u fresh: the least of 6 and on that is nowhere in it)");
        dueSequent(LONGER, 4, "e->6*ls(6,0)*tree(b)*ls(b,d) |- ls(e,a)*ls(b,e) 0 2");
        dueSequent(LONGER, 13, "6->7*ls(7,0)*tree(b)*ls(b,d) |- ls(6,a)*ls(b,e) 0 4");
        dueSequent(LONGER, 14, "a->7*ls(7,0)*tree(b)*ls(b,d) |- ls(b,e) 0 4");
        dueSequent(LONGER, 16, "a->7*ls(7,0)*b->6,8*tree(6)*tree(8)*ls(b,b) |- ls(b,e) 0 4");
        dueSequent(LONGER, 12, "b->6,7*tree(6)*tree(7)*ls(b,b) |- ls(0,a)*ls(b,e) 0 3");
        due("the greatest", () -> of(LONGER).proof(3), 8);
        dueSequent("ls(a,b)*ls(c,d)*a!=b*c!=d|-a->e*c->e", 3, "ls(6,b)*ls(c,d) |- c->e 1 1");
        dueSequent("ls(a,b)*ls(c,d)*a!=b*c!=d|-a->e*c->e", 5, "ls(6,b)*c->7*ls(7,d) |- c->e 1 1");
    }

    static void empty() {
        says("8 EMPTY: a LIST from x to y (a TREE at x) to the right goes, the CLAIM x = y (x = 0) comes.");
        dueSequent("emp|-b->0*ls(a,b)*tree(c)*a=c", 1, " |- b->0*tree(c) 2 0");
        dueSequent("emp|-b->0*ls(a,b)*tree(c)*a=c", 2, " |- b->0 3 0");
        dueSteps("emp|-b->0*ls(a,b)*tree(c)*a=c", "889", 0);
        dueSteps("emp|-ls(0,a)", "89", 0);
        dueSteps("a=0|-ls(0,a)*tree(a)", "2", 1);
        dueSteps("emp|-b->0*c->0,0", "9", 0);
    }

    static void stuck() {
        says("9 STUCK.");
        HeapJudge judge = of("a->b|-c->d*a=b*b=c");
        due("at once", () -> judge.proof(4), 0);
        due("so", () -> judge.proof(0), 0);
        due("one sequent", () -> judge.proof(1), 1);
        due("the row of one", () -> judge.proof(2), 1);
        due("its step", () -> judge.sequent(0, 0), 9);
        due("the last of many", () -> of("ls(a,b)*ls(b,c)|-ls(a,c)").proof(4), 4);
        due("of a proved one", () -> of("a->b|-a->b").proof(4), NONE);
        due("of a void one", () -> of("a!=a|-a->b").proof(4), NONE);
    }

    static void cycle() {
        says("1 CYCLE: a SEQUENT ahead on the way to it, as it was READY, is ALIKE, and since then a CELL or PAIR to the left"
                + " has gone by MATCH, MEET or FOLD: it is closed.");
        dueSteps("ls(a,b)*b->0|-ls(a,0)", "75251", 1);
        dueSequent("ls(a,b)*b->0|-ls(a,0)", 4, "ls(6,b)*b->0 |- ls(6,0) 0 0");
        dueSteps(LONGER, "7700670057700670051", 1);
        HeapJudge judge = of(LONGER);
        due("not the one with other differs", () -> judge.sequent(9, 6), NONE);
        due("the one of as many", () -> judge.sequent(18, 6), 9);
    }

    static void alike() {
        says("ALIKE: there are as many DIFFERS, PARTS, CLAIMS, and by some VARIABLES told one by one by others (0 by 0, unlike"
                + " ones by unlike ones) the PARTS to the left are in order the others'");
        HeapJudge judge = of("ls(a,b)*b->0|-ls(a,0)");
        for (int k = 0; k < 4; k++) {
            int number = k;
            due("no cycle at " + k, () -> judge.sequent(number, 6), NONE);
        }
        due("alike to the first", () -> judge.sequent(4, 6), 0);
        otherKind();
        notOneByOne();
        byThirdNumbers();
        HeapJudge three = of("ls(a,b)*ls(b,c)*ls(c,0)|-ls(a,0)");
        dueText("three lists", steps(three), "77325151");
    }

    /** Sequent 3 is as sequent 0, but that a CELL stands where a PAIR stood. */
    static void otherKind() {
        String text = "c->d,0*ls(d,0)*c!=0|-tree(c)";
        dueSteps(text, "57289", 0);
        dueSequent(text, 0, "c->d,0*ls(d,0) |- tree(c) 0 1");
        dueSequent(text, 3, "d->6*ls(6,0) |- tree(d) 0 1");
    }

    /** Sequent 3 is as sequent 0, but that b would be told by both b and 6. */
    static void notOneByOne() {
        String text = "a->e*d->e,b*ls(b,e)*e!=b|-ls(b,a)";
        dueSteps(text, "705789", 0);
        dueSequent(text, 0, "a->e*d->e,b*ls(b,e) |- ls(b,a) 0 1");
        dueSequent(text, 3, "a->e*d->e,b*ls(6,e) |- ls(6,a) 0 1");
    }

    /** Sequent 10 is ALIKE to 5 by e told by e, which stands as z of a PAIR alone and in DIFFERS. */
    static void byThirdNumbers() {
        String text = "c->0,e*ls(d,c)*ls(e,d)*tree(d)|-ls(e,0)";
        dueSteps(text, "77005770051", 1);
        dueSequent(text, 5, "c->0,e*ls(d,c)*ls(6,d)*tree(d) |- ls(6,0) 0 1");
        dueSequent(text, 10, "c->0,e*ls(d,c)*ls(7,d)*tree(d) |- ls(7,0) 0 1");
        due("alike to", () -> of(text).sequent(10, 6), 5);
    }

    static void waysInOrder() {
        says("(the first one ahead, with all that it goes on with; if that does not close, the second is not looked at)");
        dueSteps("a->b|-ls(a,b)", "69", 0);
        dueSteps("tree(a)|-ls(a,b)", "789", 0);
        dueSteps("tree(a)|-ls(a,0)", "7289", 0);
        HeapJudge judge = of("ls(a,b)*b->0|-ls(a,0)");
        int[] from = {NONE, 0, 1, 0, 3};
        for (int k = 0; k < from.length; k++) {
            int number = k;
            due("comes of, " + k, () -> judge.sequent(number, 1), from[k]);
        }
        due("rows", () -> judge.proof(2), 3);
    }

    static void sequents300() {
        says("TOO MUCH: a 301st SEQUENT");
        HeapJudge judge = of(JUST_300);
        due("proved", () -> judge.proof(0), 1);
        due("by 300", () -> judge.proof(1), 300);
        due("the last one", () -> judge.sequent(299, 0) <= 2 ? 1 : 0, 1);
        due("no other one", () -> judge.sequent(300, 0), MISSING);
        due("rows", () -> judge.proof(2), 19);
        due("none is stuck", () -> judge.proof(4), NONE);
        due("all steps", () -> countSteps(judge), 300);
    }

    static long countSteps(HeapJudge judge) {
        long all = 0;
        for (int what = 10; what <= 19; what++) {
            all += judge.proof(what);
        }
        return all;
    }

    static void sequents301() {
        says("all ends there (that SEQUENT does not come; of two the first one may have come)");
        for (String text : JUST_301) {
            HeapJudge judge = of(text);
            due("too much of " + text, () -> judge.proof(0), 2);
            due("300 came", () -> judge.proof(1), 300);
            due("all steps", () -> countSteps(judge), 300);
            due("none is stuck", () -> judge.proof(4), NONE);
            due("step 9", () -> judge.proof(19), 0);
            due("the last one", () -> judge.sequent(299, 1) >= 0 ? 1 : 0, 1);
            due("the 301st does not come", () -> judge.sequent(300, 0), MISSING);
            due("nor a part of it", () -> judge.partOf(300, 0, 0, 0), MISSING);
        }
    }

    static void partsOfSequent() {
        says("one of more than 12 PARTS of a side or 12 CLAIMS");
        String twelve = "tree(a)*tree(b)*tree(c)*tree(d)*a!=0*b!=0*c!=0*d!=0|-b->0*c->0*d->0*a->0";
        dueSteps(twelve, "707070709", 0);
        due("twelve", () -> of(twelve).sequent(8, 2), 12);
        String thirteen = "tree(a)*tree(b)*tree(c)*ls(d,0)*ls(e,0)*a!=0*b!=0*c!=0*d!=0*e!=0"
                + "|-a->0*b->0*c->0*d->0,0*e->0,0";
        dueSteps(thirteen, "7070707070", 2);
        due("twelve ahead of it", () -> of(thirteen).sequent(8, 2), 12);
        due("of two the first came", () -> of(thirteen).sequent(9, 1), 8);
        due("the greatest of those that came", () -> of(thirteen).proof(3), 12);
        due("none is stuck", () -> of(thirteen).proof(4), NONE);
        due("left over as well", () -> of(thirteen).over(), -3);
        String fourteen = "tree(a)*tree(b)*tree(c)*ls(d,0)*tree(e)*a!=0*b!=0*c!=0*d!=0*e!=0"
                + "|-a->0*b->0*c->0*d->0,0*e->0";
        dueSteps(fourteen, "7070707070", 2);
        due("fourteen would come", () -> of(fourteen).sequent(8, 2), 12);
    }

    static void partsAsTheyCome() {
        says("(as it comes, ahead of being READY)");
        String text = "tree(a)*ls(a,e)*tree(b)*tree(c)*tree(d)*a!=0*b!=0*c!=0*d!=0|-b->0*c->0*d->0*a->0";
        dueSteps(text, "70707070", 2);
        due("eleven ahead of it", () -> of(text).sequent(6, 2), 11);
        String less = "tree(a)*ls(a,e)*tree(b)*tree(c)*a!=0*b!=0*c!=0*d!=0|-b->0*c->0*a->0";
        dueSteps(less, "7070709", 0);
        due("nine of ten when ready", () -> of(less).sequent(6, 2), 9);
    }

    /** Ten are the most that can come to the right: five PARTS, and one more by each PAIR to the left. */
    static void partsToTheRight() {
        String text = "a->b,b*b->c,c*c->d,d*d->e,e*e->a,a|-tree(a)*ls(0,a)*ls(0,b)*ls(0,c)*ls(0,d)";
        dueSteps(text, "5555588888888889", 0);
        dueSequent(text, 5, " |- tree(a)*tree(a)*tree(e)*tree(d)*tree(c)*tree(b)*ls(0,a)*ls(0,b)*ls(0,c)*ls(0,d) 0 0");
        due("ten claims", () -> of(text).sequent(15, 4), 10);
        due("sixteen in one row", () -> of(text).proof(2), 16);
    }

    static void claimsOfSequent() {
        says("one of more than 12 PARTS of a side or 12 CLAIMS");
        String three = "a->a,a*b->a,a*c->a,a";
        String against = "a->b,b*b->c,c*c->b,b";
        dueSteps(three + "|-" + against + SIX, "4449", 0);
        due("twelve", () -> of(three + "|-" + against + SIX).sequent(3, 4), 12);
        String[] left = {"*d->a", "*d->a,a", "", ""};
        String[] right = {"*d->b", "*d->b,b", "*ls(d,e)", "*tree(e)"};
        String[] steps = {"4444", "4444", "4448", "4448"};
        for (int i = 0; i < left.length; i++) {
            String text = three + left[i] + "|-" + against + right[i] + SIX;
            dueSteps(text, steps[i], 2);
            due("twelve ahead of it, " + text, () -> of(text).sequent(3, 4), 12);
            due("left over as well, " + text, () -> of(text).over(), -3);
            due("no other sequent, " + text, () -> of(text).sequent(4, 0), MISSING);
        }
    }

    static void claimsAsTheyCome() {
        says("(as it comes, ahead of being READY)");
        String three = "a->a,a*b->a,a*c->a,a*d->a,b|-a->b,b*b->c,c*c->b,b*d->a,c*a=b*a=c*a=d*a=e*b=c";
        dueSteps(three, "4444", 2);
        due("eleven ahead of it", () -> of(three).sequent(3, 4), 11);
        String two = "a->a,a*b->a,a*d->a,b|-a->b,b*b->c,c*d->a,c" + SIX;
        dueSteps(two, "4449", 0);
        due("eleven of twelve when ready", () -> of(two).sequent(3, 4), 11);
    }

    /** Each of five PARTS to the right leaves two fresh ones at most, so 15 is the greatest that a text can ask for. */
    static void variablesOfProof() {
        says("a VARIABLE 21");
        String text = "tree(a)*tree(b)*tree(c)*tree(d)*tree(e)*a!=0*b!=0*c!=0*d!=0*e!=0"
                + "|-a->e,e*b->e,e*c->e,e*d->e,e*e->a,a";
        dueSteps(text, "7047047047047049", 0);
        due("ten fresh ones", () -> of(text).proof(3), 15);
        dueSequent(text, 15, "tree(6)*tree(7)*tree(8)*tree(9)*tree(10)*tree(11)*tree(12)*tree(13)*tree(14)*tree(15)"
                + " |-  10 2");
    }

    static void dueLeftOver(String text, String... want) {
        HeapJudge judge = of(text);
        due("left over of " + text, judge::over, want.length);
        for (int i = 0; i < want.length && i < judge.over(); i++) {
            dueText("left over " + i + " of " + text, leftOver(judge, i), want[i]);
        }
        due("none behind the last, " + text, () -> judge.overPart(want.length, NONE, 0), MISSING);
    }

    static void leftOver() {
        says("LEFT OVER: as a PROOF, but that DONE is when nothing is to the right (what PARTS there are to the left then is"
                + " LEFT OVER), and that there is no CYCLE.");
        dueLeftOver("emp|-emp", "");
        dueLeftOver("a->b|-a->b", "");
        dueLeftOver("a->b*c->d|-a->b", "c->d");
        dueLeftOver("a->b*b->c,d*ls(c,d)*tree(d)*e->0|-emp", "a->b*b->c,d*ls(c,d)*tree(d)*e->0");
        dueLeftOver("a=b*b->c*ls(d,d)*tree(0)|-emp", "a->c");
        dueLeftOver("a->b*c->d,e|-ls(a,b)", "a->a*c->d,e", "c->d,e");
        dueLeftOver("a!=a|-a->b");
        dueLeftOver("0->a|-emp");
        due("no cycle", () -> of("ls(a,b)*b->0|-ls(a,0)").over(), -3);
        due("proved by it", () -> of("ls(a,b)*b->0|-ls(a,0)").proof(0), 1);
    }

    static void leftOverNone() {
        says("-2: STUCK; -3: TOO MUCH");
        String[] stuck = {"emp|-a=b", "emp|-a!=b", "emp|-a->b", "a->b|-a->c", "emp|-ls(a,b)", "emp|-tree(a)",
            "tree(a)*b->c|-ls(a,0)*a=0"};
        for (String text : stuck) {
            HeapJudge judge = of(text);
            due("stuck, " + text, judge::over, -2);
            due("none of it, " + text, () -> judge.overPart(0, NONE, 0), MISSING);
        }
        String[] tooMuch = {"ls(a,b)*b->0|-ls(a,0)", "ls(a,b)*ls(b,0)|-ls(a,0)",
            "tree(a)*b->e*ls(e,b)*ls(a,c)*d!=a*a!=c|-ls(e,d)*ls(a,0)*c->0*ls(d,c)*0->0,e"};
        for (String text : tooMuch) {
            HeapJudge judge = of(text);
            due("too much, " + text, judge::over, -3);
            due("none of it, " + text, () -> judge.overPart(0, NONE, 0), MISSING);
        }
    }

    static void proofAsked() {
        says("Of the PROOF: 0 PROVED, STUCK, TOO MUCH, 1 SEQUENTS, 2 the most in one row, 3 the greatest number of a VARIABLE in"
                + " SEQUENTS (as sequent() tells them), 4 the SEQUENT that is STUCK (NONE); 10 and r: how often STEP r (0"
                + " to 9).");
        HeapJudge judge = new HeapJudge();
        int[] want = {1, 1, 1, 0, NONE};
        for (int what = 0; what <= 4; what++) {
            int w = what;
            due("new proof " + what, () -> judge.proof(w), want[what]);
        }
        for (int step = 0; step <= 9; step++) {
            int s = step;
            due("new times " + step, () -> judge.proof(10 + s), step == 2 ? 1 : 0);
        }
        due("a variable that went", () -> of("ls(e,e)*tree(0)|-d=d").proof(3), 0);
        due("a variable of a claim", () -> of("emp|-a=e").proof(3), 5);
        due("a variable of differs", () -> of("e!=a*ls(a,0)|-e=b").proof(3), 5);
        due("a variable as z", () -> of("a->b,e|-emp").proof(3), 5);
        due("a variable to the right", () -> of("emp|-e->0").proof(3), 5);
        due("the greatest as told", () -> of("a=e*e->d|-emp").proof(3), 4);
    }

    static void proofRefused() {
        says("`int proof(int what) throws IllegalArgumentException`");
        HeapJudge judge = of("a->b|-ls(a,b)");
        int[] outside = {-1, -2, 5, 6, 7, 8, 9, 20, 21};
        for (int what : outside) {
            due("proof " + what, () -> judge.proof(what), ILLEGAL);
        }
        for (int what : FAR) {
            due("proof " + what, () -> judge.proof(what), ILLEGAL);
        }
        due("refused so often", () -> judge.status(1), outside.length + FAR.length);
    }

    static void sequentAsked() {
        says("0 its STEP (by which TOO MUCH came, too), 1 the one that it comes of (NONE), 2 PARTS to the left, 3 to the right, 4"
                + " CLAIMS, 5 DIFFERS, 6 of a CYCLE the SEQUENT that it is ALIKE to (the latest such; NONE: no CYCLE)");
        HeapJudge judge = of("ls(a,b)*b->0|-ls(a,0)");
        int[][] want = {{7, NONE, 2, 1, 0, 0, NONE}, {5, 0, 1, 1, 0, 0, NONE}, {2, 1, 0, 0, 0, 0, NONE},
            {5, 0, 3, 1, 0, 1, NONE}, {1, 3, 2, 1, 0, 0, 0}};
        for (int k = 0; k < want.length; k++) {
            for (int what = 0; what <= 6; what++) {
                int number = k;
                int w = what;
                due("sequent " + k + " " + what, () -> judge.sequent(number, w), want[k][what]);
            }
        }
        due("the step by which too much came", () -> of("a->a,a*b->a,a*c->a,a|-a->b,b*b->c,c*c->b,b*tree(e)" + SIX)
                .sequent(3, 0), 8);
    }

    static void sequentRefused() {
        says("no such SIDE, PART, CLAIM, SEQUENT (so below, ahead of others)");
        HeapJudge judge = of("ls(a,b)*b->0|-ls(a,0)");
        int missing = 0;
        int[] numbers = {-1, 5, 6, 299, 300};
        for (int k : numbers) {
            due("sequent " + k, () -> judge.sequent(k, 0), MISSING);
            due("sequent " + k + " what 7", () -> judge.sequent(k, 7), MISSING);
            missing += 2;
        }
        for (int far : FAR) {
            due("sequent " + far, () -> judge.sequent(far, 0), MISSING);
            due("sequent what " + far, () -> judge.sequent(4, far), ILLEGAL);
            missing++;
        }
        due("sequent what -1", () -> judge.sequent(0, -1), ILLEGAL);
        due("sequent what 7", () -> judge.sequent(4, 7), ILLEGAL);
        due("missing", () -> judge.status(0), missing);
        due("illegal", () -> judge.status(1), 2 + FAR.length);
    }

    static void partOfRefused() {
        says("Of a PART of a SEQUENT, likewise as part().");
        HeapJudge judge = of("ls(a,b)*b->0|-ls(a,0)");
        int[][] missing = {{-1, 0, 0, 0}, {5, 0, 0, 0}, {300, 0, 0, 0}, {0, -1, 0, 0}, {0, 2, 0, 0}, {0, 0, -1, 0},
            {0, 0, 2, 0}, {0, 1, 1, 0}, {2, 0, 0, 0}, {2, 1, 0, 0}, {3, 0, 3, 0}, {0, 0, 13, 0}, {5, 0, 0, 9},
            {0, 2, 0, 9}, {0, 0, 2, 9}};
        for (int[] one : missing) {
            due("partOf " + one[0] + " " + one[1] + " " + one[2],
                    () -> judge.partOf(one[0], one[1], one[2], one[3]), MISSING);
        }
        for (int far : FAR) {
            due("partOf " + far, () -> judge.partOf(far, 0, 0, 0), MISSING);
            due("partOf side " + far, () -> judge.partOf(0, far, 0, 0), MISSING);
            due("partOf part " + far, () -> judge.partOf(0, 0, far, far), MISSING);
            due("partOf what " + far, () -> judge.partOf(0, 0, 0, far), ILLEGAL);
        }
        due("partOf what -1", () -> judge.partOf(3, 0, 2, -1), ILLEGAL);
        due("partOf what 4", () -> judge.partOf(3, 1, 0, 4), ILLEGAL);
        due("missing", () -> judge.status(0), missing.length + 3 * FAR.length);
        due("illegal", () -> judge.status(1), 2 + FAR.length);
        int[] cell = {0, 1, 6, 0};
        int[] list = {2, 6, 2, 0};
        for (int what = 0; what < 4; what++) {
            int w = what;
            due("a cell " + what, () -> judge.partOf(3, 0, 0, w), cell[what]);
            due("a list " + what, () -> judge.partOf(3, 0, 1, w), list[what]);
        }
    }

    static void overPartAsked() {
        says("Of the i-th that is DONE: k NONE: how many PARTS are LEFT OVER; of the k-th as part().");
        HeapJudge judge = of("a->b*c->d,e|-ls(a,b)");
        int[][] parts = {{0, 1, 1, 0}, {1, 3, 4, 5}};
        for (int what = 0; what < 4; what++) {
            int w = what;
            due("the first's first " + what, () -> judge.overPart(0, 0, w), parts[0][what]);
            due("the first's second " + what, () -> judge.overPart(0, 1, w), parts[1][what]);
            due("the second's " + what, () -> judge.overPart(1, 0, w), parts[1][what]);
        }
        due("how many of the first", () -> judge.overPart(0, NONE, 0), 2);
        due("how many of the second", () -> judge.overPart(1, NONE, 3), 1);
        for (int far : FAR) {
            due("how many, whatever is asked", () -> judge.overPart(0, NONE, far), 2);
        }
        due("nothing refused", () -> judge.status(0) + judge.status(1), 0);
        due("none", () -> new HeapJudge().overPart(0, NONE, 0), 0);
    }

    static void overPartRefused() {
        says("NoSuchElementException: also if over() is below 0.");
        HeapJudge judge = of("a->b*c->d,e|-ls(a,b)");
        int[][] missing = {{-1, NONE, 0}, {2, NONE, 0}, {2, 0, 0}, {-1, 0, 0}, {0, 2, 0}, {1, 1, 0}, {0, -2, 0},
            {0, 2, 9}, {2, NONE, 9}, {1, -2, -1}};
        for (int[] one : missing) {
            due("overPart " + one[0] + " " + one[1], () -> judge.overPart(one[0], one[1], one[2]), MISSING);
        }
        for (int far : FAR) {
            due("overPart " + far, () -> judge.overPart(far, NONE, 0), MISSING);
            due("overPart part " + far, () -> judge.overPart(0, far, far), MISSING);
            due("overPart what " + far, () -> judge.overPart(0, 0, far), ILLEGAL);
        }
        due("overPart what -1", () -> judge.overPart(0, 1, -1), ILLEGAL);
        due("overPart what 4", () -> judge.overPart(1, 0, 4), ILLEGAL);
        due("missing", () -> judge.status(0), missing.length + 2 * FAR.length);
        due("illegal", () -> judge.status(1), 2 + FAR.length);
        HeapJudge stuck = of("emp|-a=b");
        due("stuck, a wrong what", () -> stuck.overPart(0, 0, 9), MISSING);
        due("too much", () -> of("ls(a,b)*b->0|-ls(a,0)").overPart(0, NONE, 0), MISSING);
        due("none is done", () -> of("a!=a|-emp").overPart(0, NONE, 0), MISSING);
        due("none is left over", () -> of("a->b|-a->b").overPart(0, 0, 0), MISSING);
    }

    static void print() {
        says("From 0 on, of all SEQUENTS of the PROOF: 31 times what there is, and the STEP.");
        due("of one", () -> new HeapJudge().print(), 2);
        due("of a void one", () -> of("a!=a|-emp").print(), 0);
        String[] texts = {JUST_300, JUST_301[0], LONGER, "a->a,a*b->a,a*c->a,a|-a->b,b*b->c,c*c->b,b*tree(e)" + SIX};
        for (String text : texts) {
            HeapJudge judge = of(text);
            long sum = 0;
            for (int k = 0; k < judge.proof(1); k++) {
                sum = 31 * sum + judge.sequent(k, 0);
            }
            due("print of " + text, judge::print, sum);
        }
    }

    static void shortAfterLong() {
        says("Asked, nothing stays changed.");
        HeapJudge judge = of(JUST_300);
        long print = judge.print();
        due("long", () -> judge.proof(1), 300);
        due("left over of the long one", judge::over, of(JUST_300).over());
        tell(judge, "emp|-emp");
        due("short", () -> judge.proof(1), 1);
        due("no second sequent", () -> judge.sequent(1, 0), MISSING);
        due("its row", () -> judge.proof(2), 1);
        due("its greatest", () -> judge.proof(3), 0);
        due("its print", judge::print, 2);
        due("its left over", judge::over, 1);
        judge.undo();
        due("long again", () -> judge.proof(1), 300);
        due("as before", judge::print, print);
    }
}
