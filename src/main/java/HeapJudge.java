import java.util.Arrays;
import java.util.NoSuchElementException;

/**
 * A judge of formulas on heaps: whether each heap of a left side is one of a right side, by a proof
 * that goes step by step, what is left over, and which small heaps the right side refuses.
 */
public final class HeapJudge {
    public static final int NONE = -1;

    private static final int CELL = 0;
    private static final int PAIR = 1;
    private static final int LIST = 2;
    private static final int TREE = 3;

    private static final int UNLIKE = 0;
    private static final int SAME = 1;

    private static final int KIND = 0;
    private static final int X = 1;
    private static final int Y = 2;
    private static final int Z = 3;

    private static final int VOID = 0;
    private static final int CYCLE = 1;
    private static final int DONE = 2;
    private static final int MATCH = 3;
    private static final int MEET = 4;
    private static final int FOLD = 5;
    private static final int SPLIT = 6;
    private static final int UNFOLD = 7;
    private static final int EMPTY = 8;
    private static final int STUCK = 9;

    private static final int ENDS_STUCK = 0;
    private static final int PROVED = 1;
    private static final int TOO_MUCH = 2;
    private static final int OPEN = 3;

    private static final int TAPE_BYTES = 200;
    private static final int MOST_PARTS = 5;
    private static final int MOST_CLAIMS = 6;
    private static final int MOST_ACTS = 10;
    private static final int LETTERS = 5;
    private static final int VARIABLES = 21;
    private static final int FIRST_FRESH = 6;
    private static final int MOST_SEQUENTS = 300;
    private static final int MOST_IN_ROW = 40;
    private static final int MOST_OF_SEQUENT = 12;

    private final int[] tape = new int[TAPE_BYTES];
    private int tapeBytes = 0;
    private int faultPlace = NONE;
    private int missing = 0;
    private int wrong = 0;
    private final Sides sides = new Sides();
    private final History history = new History();
    private final Reader reader = new Reader();
    private final Prover prover = new Prover(false);
    private final Prover remainder = new Prover(true);
    private final SmallHeaps smallHeaps = new SmallHeaps();

    public HeapJudge() {
    }

    public int feed(int a, int b, int c, int d, int e) {
        if (tapeBytes + 20 > TAPE_BYTES) {
            return NONE;
        }
        putBytes(a);
        putBytes(b);
        putBytes(c);
        putBytes(d);
        putBytes(e);
        return tapeBytes;
    }

    public int text(int n) throws IllegalArgumentException {
        mustFit(n >= 0 && n <= tapeBytes);
        tapeBytes = 0;
        boolean understood = reader.read(tape, n);
        faultPlace = reader.where;
        if (!understood) {
            return reader.reason - 10;
        }
        history.keep(sides);
        sides.copyFrom(reader.sides);
        forgetAnswers();
        return sides.countParts();
    }

    public int fault() {
        return faultPlace;
    }

    public int turn() {
        history.keep(sides);
        sides.exchange();
        forgetAnswers();
        return sides.countParts();
    }

    public int drop(int side, int k) throws NoSuchElementException {
        mustBeThere(isSide(side) && sides.side(side).parts.has(k));
        history.keep(sides);
        Row parts = sides.side(side).parts;
        parts.remove(k);
        forgetAnswers();
        return parts.size;
    }

    public int forget(int side, int k) throws NoSuchElementException {
        mustBeThere(isSide(side) && sides.side(side).claims.has(k));
        history.keep(sides);
        Row claims = sides.side(side).claims;
        claims.remove(k);
        forgetAnswers();
        return claims.size;
    }

    public int undo() {
        if (!history.takeBack(sides)) {
            return NONE;
        }
        forgetAnswers();
        return history.count;
    }

    public int told(int what) throws IllegalArgumentException {
        mustFit(what >= 0 && what <= 6);
        switch (what) {
            case 0:
                return sides.left.parts.size;
            case 1:
                return sides.right.parts.size;
            case 2:
                return sides.left.claims.size;
            case 3:
                return sides.right.claims.size;
            case 4:
                return sides.countLetters();
            case 5:
                return tapeBytes;
            default:
                return history.count;
        }
    }

    public int part(int side, int k, int what) throws NoSuchElementException, IllegalArgumentException {
        mustBeThere(isSide(side) && sides.side(side).parts.has(k));
        mustFit(what >= KIND && what <= Z);
        return sides.side(side).parts.tell(k, what);
    }

    public int claim(int side, int k, int what) throws NoSuchElementException, IllegalArgumentException {
        mustBeThere(isSide(side) && sides.side(side).claims.has(k));
        mustFit(what >= KIND && what <= Y);
        return sides.side(side).claims.tell(k, what);
    }

    public int proof(int what) throws IllegalArgumentException {
        mustFit(what >= 0 && what <= 4 || what >= 10 && what <= 10 + STUCK);
        prover.judge(sides);
        switch (what) {
            case 0:
                return prover.outcome;
            case 1:
                return prover.count;
            case 2:
                return prover.mostInRow;
            case 3:
                return prover.greatest;
            case 4:
                return prover.stuckAt;
            default:
                return prover.countSteps(what - 10);
        }
    }

    public int sequent(int k, int what) throws NoSuchElementException, IllegalArgumentException {
        prover.judge(sides);
        mustBeThere(prover.has(k));
        mustFit(what >= 0 && what <= 6);
        Sequent one = prover.slot(k);
        switch (what) {
            case 0:
                return one.step;
            case 1:
                return one.from;
            case 2:
                return one.left.size;
            case 3:
                return one.right.size;
            case 4:
                return one.claims.size;
            case 5:
                return one.differs.count();
            default:
                return one.alike;
        }
    }

    public int partOf(int sequent, int side, int k, int what)
            throws NoSuchElementException, IllegalArgumentException {
        prover.judge(sides);
        mustBeThere(prover.has(sequent) && isSide(side));
        Row parts = side == 0 ? prover.slot(sequent).left : prover.slot(sequent).right;
        mustBeThere(parts.has(k));
        mustFit(what >= KIND && what <= Z);
        return parts.tell(k, what);
    }

    public int over() {
        remainder.judge(sides);
        if (remainder.outcome == ENDS_STUCK) {
            return -2;
        }
        if (remainder.outcome == TOO_MUCH) {
            return -3;
        }
        return remainder.countSteps(DONE);
    }

    public int overPart(int i, int k, int what) throws NoSuchElementException, IllegalArgumentException {
        remainder.judge(sides);
        int number = remainder.outcome == PROVED ? remainder.findDone(i) : NONE;
        mustBeThere(remainder.has(number));
        Row parts = remainder.slot(number).left;
        if (k == NONE) {
            return parts.size;
        }
        mustBeThere(parts.has(k));
        mustFit(what >= KIND && what <= Z);
        return parts.tell(k, what);
    }

    public int heaps(int what) throws IllegalArgumentException {
        mustFit(what == 0 || what == 1);
        smallHeaps.judge(sides);
        return what == 0 ? smallHeaps.count : smallHeaps.fitting;
    }

    public int refused(int what) throws IllegalArgumentException {
        mustFit(what >= 0 && what <= 2);
        smallHeaps.judge(sides);
        switch (what) {
            case 0:
                return smallHeaps.number;
            case 1:
                return smallHeaps.cells;
            default:
                return smallHeaps.pairs;
        }
    }

    public int place(int variable) throws NoSuchElementException {
        mustBeThere(variable >= 1 && variable <= LETTERS);
        smallHeaps.judge(sides);
        return smallHeaps.placeIn(variable);
    }

    public long print() {
        prover.judge(sides);
        return prover.sumOfSteps();
    }

    public int status(int what) {
        if (what == 0) {
            return missing;
        }
        return what == 1 ? wrong : NONE;
    }

    private void mustBeThere(boolean there) {
        if (!there) {
            missing++;
            throw new NoSuchElementException("there is no such thing");
        }
    }

    private void mustFit(boolean fits) {
        if (!fits) {
            wrong++;
            throw new IllegalArgumentException("a number that can't be");
        }
    }

    private void forgetAnswers() {
        prover.judged = false;
        remainder.judged = false;
        smallHeaps.judged = false;
    }

    private void putBytes(int number) {
        for (int shift = 24; shift >= 0 && tapeBytes < TAPE_BYTES; shift -= 8) {
            tape[tapeBytes] = (number >> shift) & 255;
            tapeBytes++;
        }
    }

    private static boolean isSide(int side) {
        return side == 0 || side == 1;
    }

    private static boolean isVariable(int x) {
        return x >= 0 && x < VARIABLES;
    }

    private static int packed(int kind, int x, int y, int z) {
        return kind << 15 | x << 10 | y << 5 | z;
    }

    /** PARTS or CLAIMS in order; each is packed in one number, so that equal ones are equal numbers. */
    private static final class Row {
        private final int[] items;
        private int size = 0;

        Row(int most) {
            items = new int[most > 0 ? most : 1];
        }

        boolean has(int i) {
            return i >= 0 && i < size;
        }

        int tell(int i, int what) {
            if (i < 0 || i >= size || what < KIND || what > Z) {
                return 0;
            }
            return items[i] >> (15 - 5 * what) & 31;
        }

        int item(int i) {
            return i >= 0 && i < size ? items[i] : NONE;
        }

        void clear() {
            size = 0;
        }

        void add(int item) {
            insert(size, item);
        }

        void insert(int i, int item) {
            if (i < 0 || i > size || size >= items.length) {
                return;
            }
            for (int j = size; j > i; j--) {
                items[j] = items[j - 1];
            }
            items[i] = item;
            size++;
        }

        void set(int i, int item) {
            if (i >= 0 && i < size) {
                items[i] = item;
            }
        }

        void remove(int i) {
            if (i < 0 || i >= size) {
                return;
            }
            size--;
            for (int j = i; j < size; j++) {
                items[j] = items[j + 1];
            }
        }

        void copyFrom(Row other) {
            size = Math.min(other.size, items.length);
            for (int i = 0; i < size; i++) {
                items[i] = other.items[i];
            }
        }

        void rename(int old, int young) {
            for (int i = 0; i < size; i++) {
                for (int shift = 0; shift <= 10; shift += 5) {
                    if ((items[i] >> shift & 31) == old) {
                        items[i] = items[i] & ~(31 << shift) | young << shift;
                    }
                }
            }
        }

        /** The VARIABLES in it, a bit for each. */
        int mentions() {
            int bits = 0;
            for (int i = 0; i < size; i++) {
                bits |= 1 << tell(i, X) | 1 << tell(i, Y) | 1 << tell(i, Z);
            }
            return bits;
        }

        /** Where CELLS and PAIRS are AT, a bit for each. */
        int owned() {
            int bits = 0;
            for (int i = 0; i < size; i++) {
                if (tell(i, KIND) <= PAIR) {
                    bits |= 1 << tell(i, X);
                }
            }
            return bits;
        }

        /** The first LIST from x to x or TREE at 0; a TREE's y is 0, so both are x and y being one. */
        int firstThatHasNothing() {
            for (int i = 0; i < size; i++) {
                if (tell(i, KIND) >= LIST && tell(i, X) == tell(i, Y)) {
                    return i;
                }
            }
            return NONE;
        }
    }

    private static final class Side {
        private final Row parts = new Row(MOST_PARTS);
        private final Row claims = new Row(MOST_CLAIMS);

        void clear() {
            parts.clear();
            claims.clear();
        }

        void copyFrom(Side other) {
            parts.copyFrom(other.parts);
            claims.copyFrom(other.claims);
        }
    }

    private static final class Sides {
        private Side left = new Side();
        private Side right = new Side();

        Side side(int which) {
            return which == 0 ? left : right;
        }

        void copyFrom(Sides other) {
            left.copyFrom(other.left);
            right.copyFrom(other.right);
        }

        void exchange() {
            Side other = left;
            left = right;
            right = other;
        }

        int countParts() {
            return left.parts.size + right.parts.size;
        }

        /** The VARIABLES a to e in one SIDE or both, a bit for each; 0 is none of them. */
        int letters() {
            int bits = left.parts.mentions() | left.claims.mentions()
                    | right.parts.mentions() | right.claims.mentions();
            return bits & ~1;
        }

        int countLetters() {
            return Integer.bitCount(letters());
        }
    }

    /** The latest acts that can be taken back: what both SIDES were ahead of each. */
    private static final class History {
        private final Sides[] past = new Sides[MOST_ACTS];
        private int next = 0;
        private int count = 0;

        void keep(Sides sides) {
            if (next < 0 || next >= MOST_ACTS) {
                next = 0;
            }
            if (past[next] == null) {
                past[next] = new Sides();
            }
            past[next].copyFrom(sides);
            next = next + 1 < MOST_ACTS ? next + 1 : 0;
            count = Math.min(count + 1, MOST_ACTS);
        }

        boolean takeBack(Sides sides) {
            int latest = next > 0 ? next - 1 : MOST_ACTS - 1;
            if (count <= 0 || latest >= MOST_ACTS || past[latest] == null) {
                return false;
            }
            sides.copyFrom(past[latest]);
            next = latest;
            count--;
            return true;
        }
    }

    /** Reads a TEXT from left to right and stops at its first FAULT. */
    private static final class Reader {
        private final Sides sides = new Sides();
        private final int[] bytes = new int[TAPE_BYTES];
        private int length = 0;
        private int at = 0;
        private int reason = 0;
        private int where = NONE;

        boolean read(int[] tape, int n) {
            length = Math.max(0, Math.min(n, Math.min(tape.length, TAPE_BYTES)));
            System.arraycopy(tape, 0, bytes, 0, length);
            at = 0;
            reason = 0;
            where = NONE;
            sides.left.clear();
            sides.right.clear();
            return readSide(sides.left) && need("|-") && readSide(sides.right) && needEnd();
        }

        private boolean readSide(Side side) {
            if (takeWord("emp")) {
                return true;
            }
            for (int i = 0; i < TAPE_BYTES; i++) {
                if (!readItem(side)) {
                    return false;
                }
                if (!takeSign("*")) {
                    return true;
                }
            }
            return true;
        }

        private boolean readItem(Side side) {
            skipBlanks();
            int start = at;
            if (takeWord("ls")) {
                return readList(side, start);
            }
            if (takeWord("tree")) {
                return readTree(side, start);
            }
            int x = readVariable();
            if (x == NONE) {
                return false;
            }
            if (takeSign("->")) {
                return readCell(side, start, x);
            }
            if (takeSign("=")) {
                return readClaim(side, start, SAME, x);
            }
            return need("!=") && readClaim(side, start, UNLIKE, x);
        }

        private boolean readList(Side side, int start) {
            int x = need("(") ? readVariable() : NONE;
            int y = x != NONE && need(",") ? readVariable() : NONE;
            return y != NONE && need(")") && take(side.parts, MOST_PARTS, packed(LIST, x, y, 0), start);
        }

        private boolean readTree(Side side, int start) {
            int x = need("(") ? readVariable() : NONE;
            return x != NONE && need(")") && take(side.parts, MOST_PARTS, packed(TREE, x, 0, 0), start);
        }

        private boolean readCell(Side side, int start, int x) {
            int y = readVariable();
            if (y == NONE) {
                return false;
            }
            if (!takeSign(",")) {
                return take(side.parts, MOST_PARTS, packed(CELL, x, y, 0), start);
            }
            int z = readVariable();
            return z != NONE && take(side.parts, MOST_PARTS, packed(PAIR, x, y, z), start);
        }

        private boolean readClaim(Side side, int start, int kind, int x) {
            int y = readVariable();
            return y != NONE && take(side.claims, MOST_CLAIMS, packed(kind, x, y, 0), start);
        }

        private boolean take(Row row, int most, int item, int start) {
            if (row.size >= most) {
                return refuse(2, start);
            }
            row.add(item);
            return true;
        }

        private int readVariable() {
            skipBlanks();
            int letters = countSmallLetters();
            int sign = at >= 0 && at < length ? bytes[at] : NONE;
            if (letters == 0 && sign == '0') {
                at++;
                return 0;
            }
            if (letters == 1 && sign >= 'a' && sign <= 'e') {
                at++;
                return sign - 'a' + 1;
            }
            refuse(1, at);
            return NONE;
        }

        private boolean need(String sign) {
            return takeSign(sign) || refuse(1, at);
        }

        private boolean needEnd() {
            skipBlanks();
            return at == length || refuse(1, at);
        }

        private boolean takeSign(String sign) {
            skipBlanks();
            for (int i = 0; i < sign.length(); i++) {
                int here = at + i;
                if (here < 0 || here >= length || bytes[here] != sign.charAt(i)) {
                    return false;
                }
            }
            at += sign.length();
            return true;
        }

        private boolean takeWord(String word) {
            skipBlanks();
            return countSmallLetters() == word.length() && takeSign(word);
        }

        private int countSmallLetters() {
            int end = Math.max(0, at);
            while (end < length && bytes[end] >= 'a' && bytes[end] <= 'z') {
                end++;
            }
            return end - at;
        }

        private void skipBlanks() {
            while (at >= 0 && at < length && bytes[at] == ' ') {
                at++;
            }
        }

        private boolean refuse(int why, int first) {
            reason = why;
            where = first;
            return false;
        }
    }

    /** Pairs of VARIABLES without order, each once: for each VARIABLE a bit for each it differs from. */
    private static final class Differs {
        private final int[] others = new int[VARIABLES];

        void clear() {
            Arrays.fill(others, 0);
        }

        void copyFrom(Differs from) {
            System.arraycopy(from.others, 0, others, 0, VARIABLES);
        }

        boolean has(int x, int y) {
            return isVariable(x) && isVariable(y) && (others[x] >> y & 1) == 1;
        }

        void add(int x, int y) {
            if (isVariable(x) && isVariable(y)) {
                others[x] |= 1 << y;
                others[y] |= 1 << x;
            }
        }

        /** As MAKE asks it, the old one is the greater one. */
        void rename(int old, int young) {
            if (young < 0 || old <= young || old >= VARIABLES) {
                return;
            }
            others[young] |= others[old];
            others[old] = 0;
            for (int x = 0; x < VARIABLES; x++) {
                if ((others[x] >> old & 1) == 1) {
                    others[x] = others[x] & ~(1 << old) | 1 << young;
                }
            }
        }

        boolean hasOneWithItself() {
            for (int x = 0; x < VARIABLES; x++) {
                if ((others[x] >> x & 1) == 1) {
                    return true;
                }
            }
            return false;
        }

        int count() {
            int pairs = 0;
            for (int x = 0; x < VARIABLES; x++) {
                pairs += Integer.bitCount(others[x] >> x);
            }
            return pairs;
        }

        int mentions() {
            int bits = 0;
            for (int x = 0; x < VARIABLES; x++) {
                bits |= others[x];
            }
            return bits;
        }

        /** Whether a pair went, as one of it was none of these. */
        boolean keepAmong(int bits) {
            int before = count();
            for (int x = 0; x < VARIABLES; x++) {
                others[x] = (bits >> x & 1) == 1 ? others[x] & bits : 0;
            }
            return count() != before;
        }
    }

    private static final class Sequent {
        /** Two more than may be, as it is looked at only when it has come. */
        private static final int ROOM = MOST_OF_SEQUENT + 2;
        /** Each turn takes away a PART, a CLAIM, a VARIABLE or all idle pairs: far fewer than these. */
        private static final int MOST_TURNS = 1000;

        private final Differs differs = new Differs();
        private final Row left = new Row(ROOM);
        private final Row right = new Row(ROOM);
        private final Row claims = new Row(ROOM);
        private int step = STUCK;
        private int from = NONE;
        private int row = 1;
        private int alike = NONE;
        private int rightAt = NONE;
        private int leftAt = NONE;

        void begin(Side leftSide, Side rightSide) {
            left.copyFrom(leftSide.parts);
            right.copyFrom(rightSide.parts);
            claims.copyFrom(rightSide.claims);
            differs.clear();
            Row given = leftSide.claims;
            int own = claims.size;
            for (int i = 0; i < given.size; i++) {
                if (given.tell(i, KIND) == UNLIKE) {
                    differs.add(given.tell(i, X), given.tell(i, Y));
                } else {
                    claims.add(given.item(i));
                }
            }
            makeAllFrom(own);
        }

        /** The left CLAIMS by = stand behind the right ones for so long, so that making one renames the others. */
        private void makeAllFrom(int own) {
            for (int i = 0; i < MOST_CLAIMS && claims.size > own; i++) {
                int x = claims.tell(own, X);
                int y = claims.tell(own, Y);
                claims.remove(own);
                make(x, y);
            }
        }

        void copyFrom(Sequent other) {
            differs.copyFrom(other.differs);
            left.copyFrom(other.left);
            right.copyFrom(other.right);
            claims.copyFrom(other.claims);
        }

        void make(int x, int y) {
            int old = Math.max(x, y);
            int young = Math.min(x, y);
            if (old == young) {
                return;
            }
            left.rename(old, young);
            right.rename(old, young);
            claims.rename(old, young);
            differs.rename(old, young);
        }

        boolean isTooBig() {
            return left.size > MOST_OF_SEQUENT || right.size > MOST_OF_SEQUENT || claims.size > MOST_OF_SEQUENT;
        }

        int mentions() {
            return left.mentions() | right.mentions() | claims.mentions() | differs.mentions();
        }

        private int inPartsAndClaims() {
            return left.mentions() | right.mentions() | claims.mentions();
        }

        /** False: it is VOID. */
        boolean makeReady() {
            for (int i = 0; i < MOST_TURNS; i++) {
                if (isVoid()) {
                    return false;
                }
                boolean changed = settleLeft() || settleRight()
                        || differs.keepAmong(inPartsAndClaims() | 1);
                if (!changed) {
                    return true;
                }
            }
            return true;
        }

        private boolean isVoid() {
            if (differs.hasOneWithItself()) {
                return true;
            }
            for (int i = 0; i < left.size; i++) {
                if (left.tell(i, KIND) <= PAIR && (left.tell(i, X) == 0 || clashes(i))) {
                    return true;
                }
            }
            return false;
        }

        private boolean clashes(int owner) {
            for (int i = 0; i < left.size; i++) {
                if (i != owner && left.tell(i, KIND) != LIST && left.tell(i, X) == left.tell(owner, X)) {
                    return true;
                }
            }
            return false;
        }

        private boolean settleLeft() {
            int idle = left.firstThatHasNothing();
            if (idle != NONE) {
                left.remove(idle);
                return true;
            }
            return settleListsAtNothing() || settleListsAtOwned() || settleTwoTrees();
        }

        private boolean settleListsAtNothing() {
            for (int i = 0; i < left.size; i++) {
                if (left.tell(i, KIND) == LIST && left.tell(i, X) == 0) {
                    make(left.tell(i, Y), 0);
                    return true;
                }
            }
            return false;
        }

        private boolean settleListsAtOwned() {
            int owned = left.owned();
            for (int i = 0; i < left.size; i++) {
                if (left.tell(i, KIND) == LIST && (owned >> left.tell(i, X) & 1) == 1) {
                    make(left.tell(i, X), left.tell(i, Y));
                    return true;
                }
            }
            return false;
        }

        private boolean settleTwoTrees() {
            for (int i = 0; i < left.size; i++) {
                for (int j = i + 1; j < left.size; j++) {
                    if (left.tell(i, KIND) == TREE && left.item(i) == left.item(j)) {
                        make(left.tell(i, X), 0);
                        return true;
                    }
                }
            }
            return false;
        }

        private boolean settleRight() {
            int idle = right.firstThatHasNothing();
            if (idle != NONE) {
                right.remove(idle);
                return true;
            }
            for (int i = 0; i < claims.size; i++) {
                int x = claims.tell(i, X);
                int y = claims.tell(i, Y);
                if (claims.tell(i, KIND) == SAME ? x == y : isKnown(x, y)) {
                    claims.remove(i);
                    return true;
                }
            }
            return false;
        }

        /** Whether x and y are KNOWN to differ: 0 and all that is owned do, too. */
        private boolean isKnown(int x, int y) {
            int apart = left.owned() | 1;
            return differs.has(x, y) || x != y && (apart >> x & 1) == 1 && (apart >> y & 1) == 1;
        }

        boolean isDone(boolean mayLeave) {
            return right.size == 0 && claims.size == 0 && (mayLeave || left.size == 0);
        }

        /** The first STEP of MATCH and on that can be done; and by which PARTS. */
        int findStep() {
            for (int wanted = MATCH; wanted <= UNFOLD; wanted++) {
                for (int r = 0; r < right.size; r++) {
                    for (int l = 0; l < left.size; l++) {
                        if (isFit(wanted, r, l)) {
                            rightAt = r;
                            leftAt = l;
                            return wanted;
                        }
                    }
                }
            }
            leftAt = NONE;
            rightAt = NONE;
            for (int r = 0; r < right.size; r++) {
                if (right.tell(r, KIND) >= LIST) {
                    rightAt = r;
                    return EMPTY;
                }
            }
            return STUCK;
        }

        private boolean isFit(int wanted, int r, int l) {
            if (right.tell(r, X) != left.tell(l, X)) {
                return false;
            }
            int mine = left.tell(l, KIND);
            int theirs = right.tell(r, KIND);
            switch (wanted) {
                case MATCH:
                    return right.item(r) == left.item(l);
                case MEET:
                    return mine == theirs && mine <= PAIR;
                case FOLD:
                    return theirs == TREE && mine == PAIR
                            || theirs == LIST && mine == CELL && isKnown(right.tell(r, X), right.tell(r, Y));
                case SPLIT:
                    return theirs == LIST && mine == CELL;
                default:
                    return mine >= LIST;
            }
        }

        boolean takesCellAway() {
            return step >= MATCH && step <= FOLD && left.tell(leftAt, KIND) <= PAIR;
        }

        boolean forks() {
            return step == SPLIT || step == UNFOLD;
        }

        /** Becomes what its parent goes on with; false: there is no VARIABLE left for it. */
        boolean follow(Sequent parent, boolean second) {
            copyFrom(parent);
            int r = parent.rightAt;
            int l = parent.leftAt;
            switch (parent.step) {
                case MATCH:
                    right.remove(r);
                    left.remove(l);
                    return true;
                case MEET:
                    meet(r, l);
                    return true;
                case FOLD:
                    fold(r, l);
                    return true;
                case SPLIT:
                    split(r, second);
                    return true;
                case UNFOLD:
                    if (second) {
                        return unfold(l);
                    }
                    make(left.tell(l, X), left.tell(l, Y));
                    return true;
                default:
                    claims.add(packed(SAME, right.tell(r, X), right.tell(r, Y), 0));
                    right.remove(r);
                    return true;
            }
        }

        private void meet(int r, int l) {
            claims.add(packed(SAME, left.tell(l, Y), right.tell(r, Y), 0));
            if (left.tell(l, KIND) == PAIR) {
                claims.add(packed(SAME, left.tell(l, Z), right.tell(r, Z), 0));
            }
            right.remove(r);
            left.remove(l);
        }

        private void fold(int r, int l) {
            if (right.tell(r, KIND) == LIST) {
                right.set(r, packed(LIST, left.tell(l, Y), right.tell(r, Y), 0));
            } else {
                right.set(r, packed(TREE, left.tell(l, Y), 0, 0));
                right.insert(r + 1, packed(TREE, left.tell(l, Z), 0, 0));
            }
            left.remove(l);
        }

        private void split(int r, boolean second) {
            int x = right.tell(r, X);
            int y = right.tell(r, Y);
            if (second) {
                differs.add(x, y);
            } else {
                make(x, y);
            }
        }

        private boolean unfold(int l) {
            int x = left.tell(l, X);
            int y = left.tell(l, Y);
            int u = leastFresh(mentions());
            if (!isVariable(u)) {
                return false;
            }
            if (left.tell(l, KIND) == LIST) {
                differs.add(x, y);
                left.set(l, packed(CELL, x, u, 0));
                left.insert(l + 1, packed(LIST, u, y, 0));
                return true;
            }
            int v = leastFresh(mentions() | 1 << u);
            if (!isVariable(v)) {
                return false;
            }
            left.set(l, packed(PAIR, x, u, v));
            left.insert(l + 1, packed(TREE, u, 0, 0));
            left.insert(l + 2, packed(TREE, v, 0, 0));
            return true;
        }

        private static int leastFresh(int mentioned) {
            int u = FIRST_FRESH;
            while (u < VARIABLES && (mentioned >> u & 1) == 1) {
                u++;
            }
            return u;
        }
    }

    /** Which VARIABLE of one SEQUENT is told by which of another one, forth and back. */
    private static final class Naming {
        private final int[] forth = new int[VARIABLES];
        private final int[] back = new int[VARIABLES];

        /** READY SEQUENTS have no VARIABLE in DIFFERS alone, so PARTS and CLAIMS settle all names. */
        boolean areAlike(Sequent one, Sequent other) {
            Arrays.fill(forth, NONE);
            Arrays.fill(back, NONE);
            forth[0] = 0;
            back[0] = 0;
            return tellsRow(one.left, other.left) && tellsRow(one.right, other.right)
                    && tellsRow(one.claims, other.claims) && tellsPairs(one.differs, other.differs);
        }

        private boolean tellsRow(Row one, Row other) {
            if (one.size != other.size) {
                return false;
            }
            for (int i = 0; i < one.size; i++) {
                if (one.tell(i, KIND) != other.tell(i, KIND)) {
                    return false;
                }
                for (int what = X; what <= Z; what++) {
                    if (!tells(one.tell(i, what), other.tell(i, what))) {
                        return false;
                    }
                }
            }
            return true;
        }

        private boolean tells(int x, int y) {
            if (!isVariable(x) || !isVariable(y)) {
                return false;
            }
            if (forth[x] == NONE && back[y] == NONE) {
                forth[x] = y;
                back[y] = x;
            }
            return forth[x] == y && back[y] == x;
        }

        private boolean tellsPairs(Differs one, Differs other) {
            if (one.count() != other.count()) {
                return false;
            }
            for (int x = 0; x < VARIABLES; x++) {
                for (int y = 0; y < VARIABLES; y++) {
                    if (one.has(x, y) && !other.has(forth[x], forth[y])) {
                        return false;
                    }
                }
            }
            return true;
        }
    }

    /** Makes a PROOF, or what is LEFT OVER, and keeps its SEQUENTS. */
    private static final class Prover {
        private final boolean mayLeave;
        private final Sequent[] came = new Sequent[MOST_SEQUENTS];
        private final int[] waiting = new int[MOST_IN_ROW];
        private final int[] steps = new int[STUCK + 1];
        private final Naming naming = new Naming();
        private boolean judged = false;
        private int count = 0;
        private int waitingCount = 0;
        private int outcome = OPEN;
        private int mostInRow = 0;
        private int greatest = 0;
        private int stuckAt = NONE;

        Prover(boolean mayLeave) {
            this.mayLeave = mayLeave;
        }

        boolean has(int k) {
            return k >= 0 && k < count && k < MOST_SEQUENTS;
        }

        /** Each SEQUENT is made when it is first needed, and used again by later PROOFS. */
        Sequent slot(int k) {
            int index = Math.max(0, Math.min(k, MOST_SEQUENTS - 1));
            if (came[index] == null) {
                came[index] = new Sequent();
            }
            return came[index];
        }

        int countSteps(int step) {
            return step >= VOID && step <= STUCK ? steps[step] : 0;
        }

        int findDone(int i) {
            int seen = 0;
            for (int k = 0; k < count; k++) {
                if (slot(k).step == DONE) {
                    if (seen == i) {
                        return k;
                    }
                    seen++;
                }
            }
            return NONE;
        }

        long sumOfSteps() {
            long sum = 0;
            for (int k = 0; k < count; k++) {
                sum = 31 * sum + slot(k).step;
            }
            return sum;
        }

        void judge(Sides sides) {
            if (judged) {
                return;
            }
            clear();
            slot(0).begin(sides.left, sides.right);
            settle(NONE);
            for (int i = 0; i <= MOST_SEQUENTS && outcome == OPEN; i++) {
                int last = count - 1;
                boolean closed = slot(last).step <= DONE;
                int from = closed ? takeWaiting() : last;
                if (slot(last).step == STUCK) {
                    outcome = ENDS_STUCK;
                    stuckAt = last;
                } else if (from == NONE) {
                    outcome = PROVED;
                } else if (bring(from, closed)) {
                    settle(from);
                } else {
                    outcome = TOO_MUCH;
                }
            }
            judged = true;
        }

        private void clear() {
            Arrays.fill(steps, 0);
            count = 0;
            waitingCount = 0;
            outcome = OPEN;
            mostInRow = 0;
            greatest = 0;
            stuckAt = NONE;
        }

        /** The latest SEQUENT whose second one has not come yet. */
        private int takeWaiting() {
            if (waitingCount <= 0 || waitingCount > MOST_IN_ROW) {
                return NONE;
            }
            waitingCount--;
            return waiting[waitingCount];
        }

        /** What waits for its second SEQUENT is all on one way, so it is never more than one row. */
        private void letWait(int k) {
            if (waitingCount >= 0 && waitingCount < MOST_IN_ROW) {
                waiting[waitingCount] = k;
                waitingCount++;
            }
        }

        /** False: the next SEQUENT would be TOO MUCH. */
        private boolean bring(int from, boolean second) {
            Sequent parent = slot(from);
            if (count >= MOST_SEQUENTS || parent.row >= MOST_IN_ROW) {
                return false;
            }
            if (!second && parent.forks()) {
                letWait(from);
            }
            Sequent child = slot(count);
            return child.follow(parent, second) && !child.isTooBig();
        }

        /** The next SEQUENT comes: it is made READY, and its STEP is found. */
        private void settle(int from) {
            Sequent one = slot(count);
            one.from = from;
            one.row = from == NONE ? 1 : slot(from).row + 1;
            boolean ready = one.makeReady();
            one.alike = ready && !mayLeave ? findAlike(one) : NONE;
            if (!ready) {
                one.step = VOID;
            } else if (one.alike != NONE) {
                one.step = CYCLE;
            } else {
                one.step = one.isDone(mayLeave) ? DONE : one.findStep();
            }
            count++;
            if (one.step >= VOID && one.step <= STUCK) {
                steps[one.step]++;
            }
            mostInRow = Math.max(mostInRow, one.row);
            noteGreatest(one.mentions());
        }

        private void noteGreatest(int mentioned) {
            for (int x = greatest + 1; x < VARIABLES; x++) {
                if ((mentioned >> x & 1) == 1) {
                    greatest = x;
                }
            }
        }

        private int findAlike(Sequent one) {
            boolean gone = false;
            int k = one.from;
            for (int i = 0; i < MOST_IN_ROW && k != NONE; i++) {
                Sequent ahead = slot(k);
                gone = gone || ahead.takesCellAway();
                if (gone && naming.areAlike(ahead, one)) {
                    return k;
                }
                k = ahead.from;
            }
            return NONE;
        }
    }

    /** A HEAP: what each VARIABLE is, and which places have a CELL or a PAIR, with which numbers. */
    private static final class Heap {
        /** A place for each letter, one more for each PART, and 0, which is no place. */
        private static final int PLACES = LETTERS + MOST_PARTS + 1;

        private final int[] values = new int[LETTERS + 1];
        private final int[] kinds = new int[PLACES];
        private final int[] firsts = new int[PLACES];
        private final int[] seconds = new int[PLACES];
        private final int[] trees = new int[2 * PLACES + 1];
        private int taken = 0;
        private int top = 0;

        int value(int variable) {
            return variable >= 0 && variable <= LETTERS ? values[variable] : 0;
        }

        void setValue(int variable, int number) {
            if (variable >= 1 && variable <= LETTERS) {
                values[variable] = number;
            }
        }

        /** Nothing has anything; the next new place is behind all that VARIABLES are. */
        void clear() {
            Arrays.fill(kinds, NONE);
            top = 0;
            for (int variable = 1; variable <= LETTERS; variable++) {
                top = Math.max(top, values[variable]);
            }
        }

        int newPlace() {
            if (top < PLACES - 1) {
                top++;
            }
            return top;
        }

        void put(int where, int kind, int first, int second) {
            if (where > 0 && where < PLACES) {
                kinds[where] = kind;
                firsts[where] = first;
                seconds[where] = second;
            }
        }

        int countHaving(int kind) {
            int found = 0;
            for (int where = 1; where < PLACES; where++) {
                if (kinds[where] == kind) {
                    found++;
                }
            }
            return found;
        }

        boolean areSo(Row claims) {
            for (int i = 0; i < claims.size; i++) {
                boolean same = value(claims.tell(i, X)) == value(claims.tell(i, Y));
                if (same != (claims.tell(i, KIND) == SAME)) {
                    return false;
                }
            }
            return true;
        }

        /** What each PART has is settled by where it is AT, so it is taken PART by PART, and nothing may stay. */
        boolean isOf(Side side) {
            taken = 0;
            if (!areSo(side.claims)) {
                return false;
            }
            for (int i = 0; i < side.parts.size; i++) {
                if (!takePart(side.parts, i)) {
                    return false;
                }
            }
            for (int where = 1; where < PLACES; where++) {
                if (kinds[where] != NONE && (taken >> where & 1) == 0) {
                    return false;
                }
            }
            return true;
        }

        private boolean takePart(Row parts, int i) {
            int x = value(parts.tell(i, X));
            int y = value(parts.tell(i, Y));
            switch (parts.tell(i, KIND)) {
                case CELL:
                    return takeAt(x, CELL) && firsts[x] == y;
                case PAIR:
                    return takeAt(x, PAIR) && firsts[x] == y && seconds[x] == value(parts.tell(i, Z));
                case LIST:
                    return takeList(x, y);
                default:
                    return takeTree(x);
            }
        }

        private boolean takeAt(int where, int kind) {
            if (where <= 0 || where >= PLACES || kinds[where] != kind || (taken >> where & 1) == 1) {
                return false;
            }
            taken |= 1 << where;
            return true;
        }

        private boolean takeList(int x, int y) {
            int where = x;
            for (int i = 0; i < PLACES && where != y; i++) {
                if (!takeAt(where, CELL)) {
                    return false;
                }
                where = firsts[where];
            }
            return where == y;
        }

        private boolean takeTree(int x) {
            int open = 1;
            trees[0] = x;
            for (int i = 0; i < trees.length && open > 0; i++) {
                open--;
                int where = trees[open];
                if (where != 0) {
                    if (!takeAt(where, PAIR) || open + 2 > trees.length) {
                        return false;
                    }
                    trees[open] = seconds[where];
                    trees[open + 1] = firsts[where];
                    open += 2;
                }
            }
            return open == 0;
        }
    }

    /** All SMALL HEAPS of the left side, one by one, and the first that the right side refuses. */
    private static final class SmallHeaps {
        /** Six things, 0 one of them, are one or unlike in 203 ways. */
        private static final int MOST_TELLINGS = 1000;
        /** Three shapes for each of five TREES. */
        private static final int MOST_SHAPES = 1000;

        private final Heap heap = new Heap();
        private final int[] letters = new int[LETTERS];
        private final int[] shapes = new int[MOST_PARTS];
        private final int[] places = new int[LETTERS + 1];
        private int letterCount = 0;
        private boolean judged = false;
        private int count = 0;
        private int fitting = 0;
        private int number = NONE;
        private int cells = NONE;
        private int pairs = NONE;

        int placeIn(int variable) {
            return variable >= 1 && variable <= LETTERS ? places[variable] : NONE;
        }

        void judge(Sides sides) {
            if (judged) {
                return;
            }
            clear();
            findLetters(sides.letters());
            boolean more = true;
            for (int i = 0; i < MOST_TELLINGS && more; i++) {
                if (isAllowed(sides.left)) {
                    countShapes(sides);
                }
                more = tellNext();
            }
            judged = true;
        }

        private void clear() {
            Arrays.fill(places, NONE);
            count = 0;
            fitting = 0;
            number = NONE;
            cells = NONE;
            pairs = NONE;
        }

        private void findLetters(int bits) {
            letterCount = 0;
            for (int variable = 1; variable <= LETTERS; variable++) {
                heap.setValue(variable, 0);
                if ((bits >> variable & 1) == 1 && letterCount < LETTERS) {
                    letters[letterCount] = variable;
                    letterCount++;
                }
            }
        }

        /** The last letter that can be told otherwise is, and those behind it begin again. */
        private boolean tellNext() {
            for (int i = letterCount - 1; i >= 0; i--) {
                int now = heap.value(letters[i]);
                if (now <= greatestAhead(i)) {
                    heap.setValue(letters[i], now + 1);
                    return true;
                }
                heap.setValue(letters[i], 0);
            }
            return false;
        }

        private int greatestAhead(int end) {
            int greatest = 0;
            for (int i = 0; i < end && i < letterCount; i++) {
                greatest = Math.max(greatest, heap.value(letters[i]));
            }
            return greatest;
        }

        /** New places never meet others, so what VARIABLES are decides alone. */
        private boolean isAllowed(Side left) {
            if (!heap.areSo(left.claims)) {
                return false;
            }
            int owned = 1;
            for (int i = 0; i < left.parts.size; i++) {
                if (hasSomething(left.parts, i)) {
                    int bit = 1 << heap.value(left.parts.tell(i, X));
                    if ((owned & bit) != 0) {
                        return false;
                    }
                    owned |= bit;
                }
            }
            return true;
        }

        private boolean hasSomething(Row parts, int i) {
            return parts.tell(i, KIND) <= PAIR
                    || heap.value(parts.tell(i, X)) != heap.value(parts.tell(i, Y));
        }

        private int leastShape(Row parts, int i) {
            return parts.tell(i, KIND) >= LIST && hasSomething(parts, i) ? 1 : 0;
        }

        private int greatestShape(Row parts, int i) {
            if (leastShape(parts, i) == 0) {
                return 0;
            }
            return parts.tell(i, KIND) == LIST ? 2 : 3;
        }

        private void countShapes(Sides sides) {
            Row parts = sides.left.parts;
            for (int i = 0; i < MOST_PARTS; i++) {
                shapes[i] = leastShape(parts, i);
            }
            boolean more = true;
            for (int i = 0; i < MOST_SHAPES && more; i++) {
                build(parts);
                look(sides.right);
                more = shapeNext(parts);
            }
        }

        private boolean shapeNext(Row parts) {
            for (int i = Math.min(parts.size, MOST_PARTS) - 1; i >= 0; i--) {
                if (shapes[i] < greatestShape(parts, i)) {
                    shapes[i]++;
                    return true;
                }
                shapes[i] = leastShape(parts, i);
            }
            return false;
        }

        private void build(Row parts) {
            heap.clear();
            for (int i = 0; i < parts.size && i < MOST_PARTS; i++) {
                int x = heap.value(parts.tell(i, X));
                int y = heap.value(parts.tell(i, Y));
                int kind = parts.tell(i, KIND);
                if (kind <= PAIR) {
                    heap.put(x, kind, y, heap.value(parts.tell(i, Z)));
                } else if (kind == LIST) {
                    buildList(x, y, shapes[i]);
                } else {
                    buildTree(x, shapes[i]);
                }
            }
        }

        private void buildList(int x, int y, int shape) {
            if (shape == 1) {
                heap.put(x, CELL, y, 0);
            } else if (shape == 2) {
                int between = heap.newPlace();
                heap.put(x, CELL, between, 0);
                heap.put(between, CELL, y, 0);
            }
        }

        private void buildTree(int x, int shape) {
            if (shape == 1) {
                heap.put(x, PAIR, 0, 0);
            } else if (shape > 1) {
                int below = heap.newPlace();
                heap.put(x, PAIR, shape == 2 ? below : 0, shape == 2 ? 0 : below);
                heap.put(below, PAIR, 0, 0);
            }
        }

        private void look(Side right) {
            if (heap.isOf(right)) {
                fitting++;
            } else if (number == NONE) {
                number = count;
                cells = heap.countHaving(CELL);
                pairs = heap.countHaving(PAIR);
                for (int i = 0; i < letterCount; i++) {
                    places[letters[i]] = heap.value(letters[i]);
                }
            }
            count++;
        }
    }
}
