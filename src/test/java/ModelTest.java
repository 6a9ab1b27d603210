import java.util.ArrayList;
import java.util.Arrays;
import java.util.Collections;
import java.util.HashMap;
import java.util.HashSet;
import java.util.List;
import java.util.Map;
import java.util.NoSuchElementException;
import java.util.Random;
import java.util.Set;
import java.util.TreeSet;

/**
 * Random runs of calls, on HeapJudge and on a model that follows the document's words as plainly as
 * can be, with lists, sets and recursion; every answer must be one. The seed is fixed.
 */
public final class ModelTest {
    private static final int RUNS = 500;
    private static int wrong = 0;
    private static final int[] seenOutcomes = new int[3];
    private static final int[] seenOvers = new int[3];
    private static final int[] seenSteps = new int[10];

    public static void main(String[] args) {
        Random random = new Random(20261117);
        for (int run = 0; run < RUNS && wrong < 20; run++) {
            oneRun(run, random);
        }
        for (int i = 0; i < Texts.EDGES.length && wrong < 20; i++) {
            oneEdge(RUNS + i, Texts.EDGES[i]);
        }
        System.out.println("proofs stuck, proved, too much: " + Arrays.toString(seenOutcomes)
                + ", left over: " + Arrays.toString(seenOvers)
                + ", steps: " + Arrays.toString(seenSteps));
        for (int step = 0; step < 10; step++) {
            if (seenSteps[step] == 0) {
                wrong++;
                System.out.println("step " + step + " was never seen");
            }
        }
        for (int outcome = 0; outcome < 3; outcome++) {
            if (seenOutcomes[outcome] == 0 || seenOvers[outcome] == 0) {
                wrong++;
                System.out.println("outcome " + outcome + " was never seen");
            }
        }
        if (wrong != 0) {
            System.exit(1);
        }
    }

    interface Call {
        long of();
    }

    static String answer(Call call) {
        try {
            return "" + call.of();
        } catch (NoSuchElementException e) {
            return "no such element";
        } catch (IllegalArgumentException e) {
            return "illegal argument";
        }
    }

    static void same(int run, String what, Call got, Call due) {
        String g = answer(got);
        String d = answer(due);
        if (!g.equals(d)) {
            wrong++;
            System.out.println("run " + run + ": " + what + " answered " + g + ", the model " + d);
        }
    }

    static void oneRun(int run, Random random) {
        HeapJudge judge = new HeapJudge();
        Model model = new Model();
        int acts = 3 + random.nextInt(6);
        for (int i = 0; i < acts; i++) {
            int kind = random.nextInt(10);
            if (kind < 6) {
                String text = Texts.any(random);
                feedAll(run, judge, model, text, random);
                int n = random.nextInt(15) == 0 ? random.nextInt(230) - 10 : text.length();
                same(run, "text of \"" + text + "\"", () -> judge.text(n), () -> model.text(n));
                same(run, "fault of \"" + text + "\"", judge::fault, model::fault);
            } else if (kind == 6) {
                same(run, "turn", judge::turn, model::turn);
            } else if (kind == 7) {
                int side = random.nextInt(4) - 1;
                int k = random.nextInt(6) - 1;
                same(run, "drop", () -> judge.drop(side, k), () -> model.drop(side, k));
            } else if (kind == 8) {
                int side = random.nextInt(4) - 1;
                int k = random.nextInt(4) - 1;
                same(run, "forget", () -> judge.forget(side, k), () -> model.forget(side, k));
            } else {
                same(run, "undo", judge::undo, model::undo);
            }
            askAll(run + "." + i + " " + model.tell(), run, judge, model);
        }
    }

    /** A text near a limit, as it is, turned, and without one PART or the other. */
    static void oneEdge(int run, String text) {
        HeapJudge judge = new HeapJudge();
        Model model = new Model();
        feedAll(run, judge, model, text, new Random(run));
        same(run, "text of \"" + text + "\"", () -> judge.text(text.length()), () -> model.text(text.length()));
        askAll(run + " " + model.tell(), run, judge, model);
        same(run, "turn", judge::turn, model::turn);
        askAll(run + " " + model.tell(), run, judge, model);
        same(run, "undo", judge::undo, model::undo);
        for (int k = 0; k < 5; k++) {
            int part = k;
            same(run, "drop", () -> judge.drop(part % 2, part), () -> model.drop(part % 2, part));
            askAll(run + " " + model.tell(), run, judge, model);
            same(run, "undo", judge::undo, model::undo);
        }
    }

    static void feedAll(int run, HeapJudge judge, Model model, String text, Random random) {
        for (int start = 0; start < text.length(); start += 20) {
            int[] numbers = new int[5];
            for (int i = 0; i < 20; i++) {
                int at = start + i;
                int sign = at < text.length() ? text.charAt(at) : random.nextInt(256);
                numbers[i / 4] = numbers[i / 4] << 8 | sign;
            }
            same(run, "feed", () -> judge.feed(numbers[0], numbers[1], numbers[2], numbers[3], numbers[4]),
                    () -> model.feed(numbers));
        }
    }

    static void askAll(String name, int run, HeapJudge judge, Model model) {
        for (int w = -1; w <= 7; w++) {
            int what = w;
            same(run, name + " told " + w, () -> judge.told(what), () -> model.told(what));
            same(run, name + " heaps " + w, () -> judge.heaps(what), () -> model.heaps(what));
            same(run, name + " refused " + w, () -> judge.refused(what), () -> model.refused(what));
            same(run, name + " place " + w, () -> judge.place(what), () -> model.place(what));
        }
        for (int side = -1; side <= 2; side++) {
            for (int k = -1; k <= 6; k++) {
                for (int w = -1; w <= 4; w++) {
                    int s = side;
                    int i = k;
                    int what = w;
                    same(run, name + " part", () -> judge.part(s, i, what), () -> model.part(s, i, what));
                    same(run, name + " claim", () -> judge.claim(s, i, what), () -> model.claim(s, i, what));
                }
            }
        }
        for (int w = -1; w <= 20; w++) {
            int what = w;
            same(run, name + " proof " + w, () -> judge.proof(what), () -> model.proof(what));
        }
        same(run, name + " print", judge::print, model::print);
        same(run, name + " over", judge::over, model::over);
        seenOutcomes[judge.proof(0)]++;
        seenOvers[judge.over() == -2 ? 0 : judge.over() == -3 ? 2 : 1]++;
        for (int step = 0; step < 10; step++) {
            seenSteps[step] += judge.proof(10 + step);
        }
        if (judge.proof(0) == 1 && judge.refused(0) != HeapJudge.NONE) {
            wrong++;
            System.out.println(name + " is proved, but a small heap is refused");
        }
        askSequents(name, run, judge, model);
        askOver(name, run, judge, model);
        for (int w = -1; w <= 2; w++) {
            int what = w;
            same(run, name + " status " + w, () -> judge.status(what), () -> model.status(what));
        }
    }

    static void askSequents(String name, int run, HeapJudge judge, Model model) {
        int count = judge.proof(1);
        for (int k = -1; k <= count; k++) {
            int number = k;
            for (int w = -1; w <= 7; w++) {
                int what = w;
                same(run, name + " sequent " + k + " " + w, () -> judge.sequent(number, what),
                        () -> model.sequent(number, what));
            }
            for (int side = -1; side <= 2; side++) {
                for (int i = -1; i <= 13; i++) {
                    for (int w = -1; w <= 4; w++) {
                        int s = side;
                        int part = i;
                        int what = w;
                        same(run, name + " partOf " + k, () -> judge.partOf(number, s, part, what),
                                () -> model.partOf(number, s, part, what));
                    }
                }
            }
        }
    }

    static void askOver(String name, int run, HeapJudge judge, Model model) {
        int count = judge.over();
        for (int k = -1; k <= Math.max(0, count); k++) {
            for (int i = -2; i <= 13; i++) {
                for (int w = -1; w <= 4; w++) {
                    int number = k;
                    int part = i;
                    int what = w;
                    same(run, name + " overPart " + k + " " + i, () -> judge.overPart(number, part, what),
                            () -> model.overPart(number, part, what));
                }
            }
        }
    }
}

/** Random texts: mostly right ones, of which some are then spoiled. */
final class Texts {
    /** Texts near a limit, mostly found by search: 300 SEQUENTS, long rows, 12 PARTS or CLAIMS, many fresh ones. */
    static final String[] EDGES = {
        "ls(b,e)*ls(c,e)*ls(b,0)*ls(e,0)*ls(a,c)*e!=b|-ls(d,b)*ls(a,d)*tree(b)*e!=e*d=a",
        "ls(b,a)*ls(a,0)*ls(a,0)*ls(e,b)*ls(c,b)*a!=0|-ls(c,d)*ls(e,d)*ls(d,e)*ls(a,e)*tree(d)*c=b*0!=b*d!=e",
        "tree(d)*ls(e,c)*ls(a,c)*ls(c,a)*ls(d,b)*b!=c*c!=d*b!=d"
                + "|-ls(e,b)*ls(b,e)*ls(e,b)*tree(c)*d->c*c!=0*c!=b*d!=0*d!=a*d!=d*c!=e",
        "ls(a,0)*ls(e,c)*ls(c,d)*tree(c)*ls(b,a)*0!=a*d!=c*a!=e|-ls(b,d)*ls(d,b)*ls(b,d)*ls(a,d)*ls(e,0)*a!=e*c!=0",
        "ls(b,d)*ls(d,c)*tree(e)*ls(e,0)*ls(c,0)*0!=b*d!=0*e!=0*0!=b|-ls(b,a)*a->d*ls(c,b)*ls(d,a)*ls(e,b)*a!=a",
        "ls(d,c)*ls(e,a)*ls(c,b)*tree(d)*ls(a,e)*0!=e*c!=d|-ls(e,b)*ls(b,a)*ls(c,e)*ls(a,d)*d->d,e*c=b*c=c*c=e*a!=b",
        "ls(c,0)*ls(a,c)*ls(d,0)*ls(d,e)*ls(b,a)*e!=d*0!=e*d!=e*a!=e*a!=b*a!=c|-ls(c,e)*ls(b,d)*ls(e,b)*ls(b,c)*ls(d,a)",
        "ls(c,a)*ls(a,c)*ls(b,d)*ls(d,e)*ls(d,e)*a!=c*b!=0*e!=d*d!=b"
                + "|-ls(c,b)*ls(b,c)*ls(b,a)*ls(a,e)*ls(d,0)*0=a*d!=0*a=a*0!=e*b!=0",
        "tree(a)*b->e*ls(e,b)*ls(a,c)*d!=a*a!=c|-ls(e,d)*ls(a,0)*c->0*ls(d,c)*0->0,e",
        "ls(c,c)*ls(a,c)*ls(e,b)*tree(b)*tree(a)*a!=e*a!=c|-ls(e,d)*ls(a,b)*ls(d,c)*c->0*a!=e",
        "tree(d)*tree(a)*tree(b)*ls(a,b)*tree(c)*d!=e*a!=b*a!=e|-b->e,a*0->b*d->b,a*c->d,e*a->b,0*b!=a*b=d*b!=e*0=0",
        "tree(e)*tree(d)*tree(c)*tree(b)*tree(a)*e!=0*d!=0*0!=a*a!=d*0!=c*b!=0"
                + "|-e->a,a*ls(b,a)*c->a,d*a->d,e*ls(d,b)*a!=d*0=c",
        "c->b,b*e->d,b*a->c,d*d->c,d*b->c,a*0!=e*d!=e*d!=a*c!=e*c!=a*e!=b|-ls(a,d)*ls(d,0)*tree(e)*ls(a,d)*ls(c,0)*d!=e",
        "ls(b,0)*ls(e,d)*ls(d,c)*c->a,e*ls(b,c)*0!=e|-ls(e,b)*b->d,0",
        "c->0,e*ls(d,c)*ls(e,d)*tree(d)|-ls(e,0)*a=a*b=b*ls(a,a)*tree(0)",
        "a->e*d->e,b*ls(b,e)*tree(c)*ls(c,0)*e!=b|-ls(b,a)*ls(c,0)*tree(c)*a=a*e=e",
        "ls(d,c)*ls(a,0)*ls(b,c)*e->c,d*ls(c,b)*d!=c*b!=c*0!=a"
                + "|-tree(b)*tree(e)*ls(d,a)*ls(b,a)*ls(a,b)*e!=d*c=a*c=a*a!=a*e!=b*a!=a"};

    static String any(Random random) {
        int kind = random.nextInt(16);
        return kind == 0 ? crowded(random) : kind < 5 ? loose(random) : chained(random, kind < 9);
    }

    /** Much of all: what grows beyond 12 PARTS or CLAIMS. */
    static String crowded(Random random) {
        boolean trees = random.nextInt(2) == 0;
        List<String> left = new ArrayList<>();
        List<String> right = new ArrayList<>();
        for (int i = 0; i < 5; i++) {
            String x = letter(i);
            String y = variable(random, 5, 5);
            left.add(trees ? "tree(" + x + ")" : x + "->0," + y);
            right.add(trees ? "ls(" + x + "," + y + ")" : x + "->" + y + ",a");
            if (trees && random.nextInt(5) > 0) {
                left.add(x + "!=0");
            }
        }
        for (int i = random.nextInt(4); i < 6; i++) {
            right.add(variable(random, 5, 5) + "=" + letter(i % 5));
        }
        return String.join("*", left) + " |- " + String.join("*", right);
    }

    /** PARTS AT unlike VARIABLES, lists and trees most of all, so that a proof goes on for long. */
    static String chained(Random random, boolean trees) {
        List<Integer> order = new ArrayList<>(List.of(0, 1, 2, 3, 4));
        Collections.shuffle(order, random);
        int parts = 1 + random.nextInt(4);
        List<String> left = new ArrayList<>();
        List<String> right = new ArrayList<>();
        for (int i = 0; i < parts; i++) {
            String x = letter(order.get(i));
            String y = i + 1 < parts && random.nextInt(3) > 0 ? letter(order.get(i + 1)) : variable(random, 5, 2);
            left.add(chainedItem(random, trees, x, y));
            if (random.nextInt(i == 0 ? 10 : 3) == 0 || i == 0) {
                right.add(chainedItem(random, trees, x, random.nextInt(3) > 0 ? "0" : variable(random, 5, 4)));
            }
        }
        if (random.nextInt(3) == 0) {
            String claim = variable(random, 5, 9) + (random.nextInt(4) == 0 ? "=" : "!=") + variable(random, 5, 4);
            (random.nextInt(3) == 0 ? right : left).add(claim);
        }
        Collections.shuffle(left, random);
        return String.join("*", left) + " |- " + String.join("*", right);
    }

    static String chainedItem(Random random, boolean trees, String x, String y) {
        int kind = random.nextInt(6);
        if (trees) {
            return kind == 0 ? x + "->" + y + "," + variable(random, 5, 3)
                    : kind == 1 ? "ls(" + x + "," + y + ")" : "tree(" + x + ")";
        }
        return kind == 0 ? x + "->" + y : kind == 1 ? "tree(" + x + ")" : "ls(" + x + "," + y + ")";
    }

    static String letter(int number) {
        return "" + (char) ('a' + number);
    }

    static String loose(Random random) {
        int letters = 1 + random.nextInt(5);
        StringBuilder text = new StringBuilder();
        int most = random.nextInt(30) == 0 ? 7 : 5;
        boolean lists = random.nextInt(3) == 0;
        side(text, random, letters, most, lists);
        blank(text, random);
        text.append("|-");
        side(text, random, letters, most, lists);
        blank(text, random);
        if (random.nextInt(12) == 0 && text.length() > 0) {
            spoil(text, random);
        }
        if (text.length() > 200) {
            text.setLength(200);
        }
        return text.toString();
    }

    static void spoil(StringBuilder text, Random random) {
        int at = random.nextInt(text.length());
        String signs = "abcdef0 ->|*=!(),lstremp";
        char sign = signs.charAt(random.nextInt(signs.length()));
        int how = random.nextInt(4);
        if (how == 0) {
            text.setCharAt(at, sign);
        } else if (how == 1) {
            text.deleteCharAt(at);
        } else if (how == 2) {
            text.insert(at, sign);
        } else {
            text.setLength(at);
        }
    }

    static void blank(StringBuilder text, Random random) {
        if (random.nextInt(6) == 0) {
            text.append(' ');
        }
    }

    static void side(StringBuilder text, Random random, int letters, int most, boolean lists) {
        int items = random.nextInt(most + 1);
        if (items == 0) {
            blank(text, random);
            text.append("emp");
        }
        for (int i = 0; i < items; i++) {
            if (i > 0) {
                blank(text, random);
                text.append("*");
            }
            blank(text, random);
            item(text, random, letters, lists);
        }
    }

    static void item(StringBuilder text, Random random, int letters, boolean lists) {
        int kind = lists ? random.nextInt(3) * 2 : random.nextInt(9);
        String x = variable(random, letters, 15);
        String y = variable(random, letters, 4);
        if (kind <= 1) {
            text.append(x).append("->").append(y);
        } else if (kind == 2) {
            text.append(x).append(random.nextInt(2) == 0 ? "!=" : "=").append(y);
        } else if (kind <= 4) {
            text.append("ls(").append(x).append(",").append(y).append(")");
        } else if (kind == 5) {
            text.append("tree(").append(x).append(")");
        } else if (kind == 6) {
            text.append(x).append("->").append(y).append(",").append(variable(random, letters, 3));
        } else if (kind == 7) {
            text.append("tree(").append(x).append(")");
        } else {
            text.append(x).append("!=").append(variable(random, letters, 5));
        }
    }

    static String variable(Random random, int letters, int seldomNothing) {
        return random.nextInt(seldomNothing) == 0 ? "0" : "" + (char) ('a' + random.nextInt(letters));
    }
}

/** A PART or CLAIM is a list of four numbers; a claim's z is 0. */
final class ModelSide {
    final List<List<Integer>> parts = new ArrayList<>();
    final List<List<Integer>> claims = new ArrayList<>();

    ModelSide copy() {
        ModelSide other = new ModelSide();
        other.parts.addAll(parts);
        other.claims.addAll(claims);
        return other;
    }
}

final class ModelFault extends RuntimeException {
    private static final long serialVersionUID = 1L;
    final int kind;
    final int at;

    ModelFault(int kind, int at) {
        this.kind = kind;
        this.at = at;
    }
}

/** Splits a text in tokens first, and then goes by them. */
final class ModelReader {
    final List<String> tokens = new ArrayList<>();
    final List<Integer> starts = new ArrayList<>();
    int next = 0;

    ModelReader(String text) {
        int at = 0;
        while (at < text.length()) {
            int end = at + 1;
            char sign = text.charAt(at);
            if (sign == ' ') {
                at++;
                continue;
            }
            if (sign >= 'a' && sign <= 'z') {
                while (end < text.length() && text.charAt(end) >= 'a' && text.charAt(end) <= 'z') {
                    end++;
                }
            } else if (text.startsWith("->", at) || text.startsWith("!=", at) || text.startsWith("|-", at)) {
                end = at + 2;
            }
            tokens.add(text.substring(at, end));
            starts.add(at);
            at = end;
        }
        tokens.add("end");
        starts.add(text.length());
    }

    String token() {
        boolean last = next == tokens.size() - 1;
        return last ? "" : tokens.get(next);
    }

    ModelFault bad() {
        return new ModelFault(1, starts.get(next));
    }

    boolean take(String wanted) {
        if (!token().equals(wanted)) {
            return false;
        }
        next++;
        return true;
    }

    void need(String wanted) {
        if (!take(wanted)) {
            throw bad();
        }
    }

    int variable() {
        String token = token();
        int number = token.length() == 1 ? "0abcde".indexOf(token) : -1;
        if (number < 0) {
            throw bad();
        }
        next++;
        return number;
    }

    ModelSide side() {
        ModelSide side = new ModelSide();
        if (take("emp")) {
            return side;
        }
        do {
            int start = starts.get(next);
            List<Integer> part = null;
            List<Integer> claim = null;
            if (take("ls")) {
                need("(");
                int x = variable();
                need(",");
                int y = variable();
                need(")");
                part = List.of(2, x, y, 0);
            } else if (take("tree")) {
                need("(");
                int x = variable();
                need(")");
                part = List.of(3, x, 0, 0);
            } else {
                int x = variable();
                if (take("=")) {
                    claim = List.of(1, x, variable(), 0);
                } else if (take("!=")) {
                    claim = List.of(0, x, variable(), 0);
                } else {
                    need("->");
                    int y = variable();
                    part = take(",") ? List.of(1, x, y, variable()) : List.of(0, x, y, 0);
                }
            }
            if (part != null) {
                side.parts.add(part);
            } else {
                side.claims.add(claim);
            }
            if (side.parts.size() > 5 || side.claims.size() > 6) {
                throw new ModelFault(2, start);
            }
        } while (take("*"));
        return side;
    }

    ModelSide[] both() {
        ModelSide left = side();
        need("|-");
        ModelSide right = side();
        if (next != tokens.size() - 1) {
            throw bad();
        }
        return new ModelSide[] {left, right};
    }
}

final class ModelSequent {
    Set<Set<Integer>> differs = new HashSet<>();
    List<List<Integer>> left = new ArrayList<>();
    List<List<Integer>> right = new ArrayList<>();
    List<List<Integer>> claims = new ArrayList<>();
    int step = -1;
    int number = -1;
    int alike = -1;
    boolean cellGone = false;
    ModelSequent parent = null;
    int depth = 1;

    ModelSequent copy() {
        ModelSequent other = new ModelSequent();
        other.differs.addAll(differs);
        other.left.addAll(left);
        other.right.addAll(right);
        other.claims.addAll(claims);
        return other;
    }

    static Set<Integer> pair(int x, int y) {
        return new TreeSet<>(List.of(x, y).subList(0, x == y ? 1 : 2));
    }

    static List<List<Integer>> renamed(List<List<Integer>> items, int from, int to) {
        List<List<Integer>> result = new ArrayList<>();
        for (List<Integer> item : items) {
            List<Integer> copy = new ArrayList<>(item);
            for (int i = 1; i < 4; i++) {
                if (copy.get(i) == from) {
                    copy.set(i, to);
                }
            }
            result.add(copy);
        }
        return result;
    }

    void make(int x, int y) {
        int from = Math.max(x, y);
        int to = Math.min(x, y);
        left = renamed(left, from, to);
        right = renamed(right, from, to);
        claims = renamed(claims, from, to);
        Set<Set<Integer>> young = new HashSet<>();
        for (Set<Integer> one : differs) {
            Set<Integer> other = new TreeSet<>();
            for (int v : one) {
                other.add(v == from ? to : v);
            }
            young.add(other);
        }
        differs = young;
    }

    static boolean owns(List<Integer> part) {
        return part.get(0) <= 1;
    }

    boolean owned(int x) {
        for (List<Integer> part : left) {
            if (owns(part) && part.get(1) == x) {
                return true;
            }
        }
        return false;
    }

    boolean known(int x, int y) {
        if (differs.contains(pair(x, y))) {
            return true;
        }
        if (x == 0 && owned(y) || y == 0 && owned(x)) {
            return true;
        }
        for (int i = 0; i < left.size(); i++) {
            for (int j = 0; j < left.size(); j++) {
                if (i != j && owns(left.get(i)) && owns(left.get(j))
                        && left.get(i).get(1) == x && left.get(j).get(1) == y) {
                    return true;
                }
            }
        }
        return false;
    }

    boolean isVoid() {
        for (Set<Integer> one : differs) {
            if (one.size() == 1) {
                return true;
            }
        }
        for (int i = 0; i < left.size(); i++) {
            if (owns(left.get(i)) && left.get(i).get(1) == 0) {
                return true;
            }
            for (int j = 0; j < left.size(); j++) {
                boolean atOne = i != j && left.get(i).get(1).equals(left.get(j).get(1));
                if (atOne && owns(left.get(i)) && (owns(left.get(j)) || left.get(j).get(0) == 3)) {
                    return true;
                }
            }
        }
        return false;
    }

    static boolean goes(List<Integer> part) {
        return part.get(0) == 2 && part.get(1).equals(part.get(2)) || part.get(0) == 3 && part.get(1) == 0;
    }

    boolean inPartOrClaim(int v) {
        List<List<Integer>> all = new ArrayList<>(left);
        all.addAll(right);
        all.addAll(claims);
        for (List<Integer> item : all) {
            if (item.subList(1, 4).contains(v)) {
                return true;
            }
        }
        return false;
    }

    boolean anywhere(int v) {
        if (inPartOrClaim(v)) {
            return true;
        }
        for (Set<Integer> one : differs) {
            if (one.contains(v)) {
                return true;
            }
        }
        return false;
    }

    /** One thing towards being READY. */
    boolean readyOnce() {
        for (List<Integer> part : left) {
            if (goes(part)) {
                left.remove(part);
                return true;
            }
        }
        for (List<Integer> part : left) {
            if (part.get(0) == 2 && part.get(1) == 0) {
                make(part.get(2), 0);
                return true;
            }
        }
        for (List<Integer> part : left) {
            if (part.get(0) == 2 && owned(part.get(1))) {
                make(part.get(1), part.get(2));
                return true;
            }
        }
        for (List<Integer> part : left) {
            if (part.get(0) == 3 && Collections.frequency(left, part) > 1) {
                make(part.get(1), 0);
                return true;
            }
        }
        for (List<Integer> part : right) {
            if (goes(part)) {
                right.remove(part);
                return true;
            }
        }
        for (List<Integer> claim : claims) {
            boolean so = claim.get(0) == 1 ? claim.get(1).equals(claim.get(2)) : known(claim.get(1), claim.get(2));
            if (so) {
                claims.remove(claim);
                return true;
            }
        }
        for (Set<Integer> one : differs) {
            for (int v : one) {
                if (v != 0 && !inPartOrClaim(v)) {
                    differs.remove(one);
                    return true;
                }
            }
        }
        return false;
    }

    /** Looks for a telling by trying all, one VARIABLE after the other. */
    boolean alikeTo(ModelSequent other) {
        if (differs.size() != other.differs.size() || left.size() != other.left.size()
                || right.size() != other.right.size() || claims.size() != other.claims.size()) {
            return false;
        }
        Map<Integer, Integer> names = new HashMap<>();
        names.put(0, 0);
        boolean fits = tell(left, other.left, names) && tell(right, other.right, names)
                && tell(claims, other.claims, names);
        if (!fits) {
            return false;
        }
        Set<Set<Integer>> young = new HashSet<>();
        for (Set<Integer> one : differs) {
            Set<Integer> named = new TreeSet<>();
            for (int v : one) {
                named.add(names.get(v));
            }
            young.add(named);
        }
        return young.equals(other.differs);
    }

    static boolean tell(List<List<Integer>> mine, List<List<Integer>> theirs, Map<Integer, Integer> names) {
        for (int i = 0; i < mine.size(); i++) {
            if (!mine.get(i).get(0).equals(theirs.get(i).get(0))) {
                return false;
            }
            for (int j = 1; j < 4; j++) {
                int x = mine.get(i).get(j);
                int y = theirs.get(i).get(j);
                if (!names.containsKey(x) && !names.containsValue(y)) {
                    names.put(x, y);
                }
                if (!names.containsKey(x) || names.get(x) != y) {
                    return false;
                }
            }
        }
        return true;
    }
}

final class ModelTooMuch extends RuntimeException {
    private static final long serialVersionUID = 1L;
}

final class ModelProof {
    final List<ModelSequent> all = new ArrayList<>();
    final boolean over;
    int outcome;
    int stuck = -1;
    int row = 0;
    int greatest = 0;

    ModelProof(ModelSide left, ModelSide right, boolean over) {
        this.over = over;
        ModelSequent first = new ModelSequent();
        first.left.addAll(left.parts);
        first.right.addAll(right.parts);
        first.claims.addAll(right.claims);
        List<List<Integer>> given = new ArrayList<>(left.claims);
        for (int i = 0; i < given.size(); i++) {
            if (given.get(i).get(0) == 0) {
                first.differs.add(ModelSequent.pair(given.get(i).get(1), given.get(i).get(2)));
            }
        }
        for (int i = 0; i < given.size(); i++) {
            if (given.get(i).get(0) == 1) {
                int x = given.get(i).get(1);
                int y = given.get(i).get(2);
                first.make(x, y);
                given = ModelSequent.renamed(given, Math.max(x, y), Math.min(x, y));
            }
        }
        try {
            outcome = closes(first) ? 1 : 0;
        } catch (ModelTooMuch e) {
            outcome = 2;
        }
    }

    boolean closes(ModelSequent one) {
        if (all.size() == 300 || one.depth > 40 || one.left.size() > 12 || one.right.size() > 12
                || one.claims.size() > 12) {
            throw new ModelTooMuch();
        }
        one.number = all.size();
        all.add(one);
        boolean isVoid = one.isVoid();
        while (!isVoid && one.readyOnce()) {
            isVoid = one.isVoid();
        }
        row = Math.max(row, one.depth);
        for (int v = 0; v <= 20; v++) {
            if (one.anywhere(v)) {
                greatest = Math.max(greatest, v);
            }
        }
        if (isVoid) {
            one.step = 0;
            return true;
        }
        if (!over && cycle(one)) {
            one.step = 1;
            return true;
        }
        if (one.right.isEmpty() && one.claims.isEmpty() && (over || one.left.isEmpty())) {
            one.step = 2;
            return true;
        }
        return match(one);
    }

    boolean cycle(ModelSequent one) {
        boolean gone = false;
        for (ModelSequent ahead = one.parent; ahead != null; ahead = ahead.parent) {
            gone |= ahead.cellGone;
            if (gone && ahead.alikeTo(one)) {
                one.alike = ahead.number;
                return true;
            }
        }
        return false;
    }

    static ModelSequent child(ModelSequent one) {
        ModelSequent child = one.copy();
        child.parent = one;
        child.depth = one.depth + 1;
        return child;
    }

    boolean match(ModelSequent one) {
        for (List<Integer> part : one.right) {
            if (one.left.contains(part)) {
                one.step = 3;
                one.cellGone = ModelSequent.owns(part);
                ModelSequent child = child(one);
                child.right.remove(part);
                child.left.remove(part);
                return closes(child);
            }
        }
        return meet(one);
    }

    boolean meet(ModelSequent one) {
        for (List<Integer> part : one.right) {
            for (List<Integer> mine : one.left) {
                boolean cells = part.get(0) == 0 && mine.get(0) == 0;
                boolean pairs = part.get(0) == 1 && mine.get(0) == 1;
                if ((cells || pairs) && part.get(1).equals(mine.get(1))) {
                    one.step = 4;
                    one.cellGone = true;
                    ModelSequent child = child(one);
                    child.right.remove(part);
                    child.left.remove(mine);
                    child.claims.add(List.of(1, mine.get(2), part.get(2), 0));
                    if (pairs) {
                        child.claims.add(List.of(1, mine.get(3), part.get(3), 0));
                    }
                    return closes(child);
                }
            }
        }
        return fold(one);
    }

    boolean fold(ModelSequent one) {
        for (int r = 0; r < one.right.size(); r++) {
            List<Integer> part = one.right.get(r);
            for (List<Integer> mine : one.left) {
                boolean atOne = part.get(1).equals(mine.get(1));
                boolean list = part.get(0) == 2 && mine.get(0) == 0 && one.known(part.get(1), part.get(2));
                boolean tree = part.get(0) == 3 && mine.get(0) == 1;
                if (atOne && (list || tree)) {
                    one.step = 5;
                    one.cellGone = true;
                    ModelSequent child = child(one);
                    child.left.remove(mine);
                    child.right.remove(r);
                    if (list) {
                        child.right.add(r, List.of(2, mine.get(2), part.get(2), 0));
                    } else {
                        child.right.add(r, List.of(3, mine.get(3), 0, 0));
                        child.right.add(r, List.of(3, mine.get(2), 0, 0));
                    }
                    return closes(child);
                }
            }
        }
        return split(one);
    }

    boolean split(ModelSequent one) {
        for (List<Integer> part : one.right) {
            for (List<Integer> mine : one.left) {
                if (part.get(0) == 2 && mine.get(0) == 0 && part.get(1).equals(mine.get(1))) {
                    one.step = 6;
                    ModelSequent first = child(one);
                    first.make(part.get(1), part.get(2));
                    if (!closes(first)) {
                        return false;
                    }
                    ModelSequent second = child(one);
                    second.differs.add(ModelSequent.pair(part.get(1), part.get(2)));
                    return closes(second);
                }
            }
        }
        return unfold(one);
    }

    boolean unfold(ModelSequent one) {
        for (List<Integer> part : one.right) {
            for (int l = 0; l < one.left.size(); l++) {
                List<Integer> mine = one.left.get(l);
                if (mine.get(0) >= 2 && mine.get(1).equals(part.get(1))) {
                    one.step = 7;
                    ModelSequent first = child(one);
                    first.make(mine.get(1), mine.get(0) == 2 ? mine.get(2) : 0);
                    if (!closes(first)) {
                        return false;
                    }
                    return closes(unfolded(one, l, mine));
                }
            }
        }
        return empty(one);
    }

    static ModelSequent unfolded(ModelSequent one, int l, List<Integer> mine) {
        List<Integer> fresh = new ArrayList<>();
        for (int v = 6; fresh.size() < 2; v++) {
            if (!one.anywhere(v)) {
                fresh.add(v);
            }
        }
        int needed = mine.get(0) == 2 ? 1 : 2;
        if (fresh.get(needed - 1) > 20) {
            throw new ModelTooMuch();
        }
        ModelSequent second = child(one);
        second.left.remove(l);
        if (needed == 1) {
            second.differs.add(ModelSequent.pair(mine.get(1), mine.get(2)));
            second.left.addAll(l, List.of(List.of(0, mine.get(1), fresh.get(0), 0),
                    List.of(2, fresh.get(0), mine.get(2), 0)));
        } else {
            second.left.addAll(l, List.of(List.of(1, mine.get(1), fresh.get(0), fresh.get(1)),
                    List.of(3, fresh.get(0), 0, 0), List.of(3, fresh.get(1), 0, 0)));
        }
        return second;
    }

    boolean empty(ModelSequent one) {
        for (List<Integer> part : one.right) {
            if (part.get(0) >= 2) {
                one.step = 8;
                ModelSequent child = child(one);
                child.right.remove(part);
                child.claims.add(List.of(1, part.get(1), part.get(0) == 2 ? part.get(2) : 0, 0));
                return closes(child);
            }
        }
        one.step = 9;
        stuck = one.number;
        return false;
    }
}

/** All tellings and shapes, also those that can't be, and only then a look whether the left side allows it. */
final class ModelHeaps {
    final ModelSide left;
    final ModelSide right;
    final List<Integer> letters;
    final int[] value = new int[6];
    int count = 0;
    int fitting = 0;
    int refused = -1;
    int cells = -1;
    int pairs = -1;
    final int[] places = {-1, -1, -1, -1, -1, -1};

    ModelHeaps(ModelSide left, ModelSide right, List<Integer> letters) {
        this.left = left;
        this.right = right;
        this.letters = letters;
        tellLetter(0, 0);
    }

    void tellLetter(int i, int unlike) {
        if (i == letters.size()) {
            tellShape(new ArrayList<>(), unlike);
            return;
        }
        for (int v = 0; v <= unlike + 1; v++) {
            value[letters.get(i)] = v;
            tellLetter(i + 1, Math.max(unlike, v));
        }
        value[letters.get(i)] = 0;
    }

    void tellShape(List<Integer> shapes, int unlike) {
        if (shapes.size() == left.parts.size()) {
            look(shapes, unlike);
            return;
        }
        int kind = left.parts.get(shapes.size()).get(0);
        int most = kind == 2 ? 2 : kind == 3 ? 3 : 0;
        for (int shape = 0; shape <= most; shape++) {
            shapes.add(shape);
            tellShape(shapes, unlike);
            shapes.remove(shapes.size() - 1);
        }
    }

    boolean claimsSo(ModelSide side) {
        for (List<Integer> claim : side.claims) {
            if ((value[claim.get(1)] == value[claim.get(2)]) != (claim.get(0) == 1)) {
                return false;
            }
        }
        return true;
    }

    /** Each has: where, then a CELL's number or a PAIR's two. */
    List<List<Integer>> owned(int i, int shape, int fresh) {
        List<Integer> part = left.parts.get(i);
        int x = value[part.get(1)];
        int y = value[part.get(2)];
        switch (part.get(0)) {
            case 0:
                return List.of(List.of(x, y));
            case 1:
                return List.of(List.of(x, y, value[part.get(3)]));
            case 2:
                return shape == 0 ? List.of() : shape == 1 ? List.of(List.of(x, y))
                        : List.of(List.of(x, fresh), List.of(fresh, y));
            default:
                return shape == 0 ? List.of() : shape == 1 ? List.of(List.of(x, 0, 0))
                        : List.of(shape == 2 ? List.of(x, fresh, 0) : List.of(x, 0, fresh), List.of(fresh, 0, 0));
        }
    }

    void look(List<Integer> shapes, int unlike) {
        Map<Integer, List<Integer>> heap = new HashMap<>();
        for (int i = 0; i < shapes.size(); i++) {
            List<Integer> part = left.parts.get(i);
            boolean nothing = part.get(0) == 2 && value[part.get(1)] == value[part.get(2)]
                    || part.get(0) == 3 && value[part.get(1)] == 0;
            if (part.get(0) >= 2 && nothing != (shapes.get(i) == 0)) {
                return;
            }
            for (List<Integer> one : owned(i, shapes.get(i), unlike + 1 + i)) {
                boolean atEnd = part.get(0) == 2 && one.get(0) == value[part.get(2)];
                if (one.get(0) == 0 || atEnd || heap.containsKey(one.get(0))) {
                    return;
                }
                heap.put(one.get(0), one.subList(1, one.size()));
            }
        }
        if (!claimsSo(left)) {
            return;
        }
        if (isOfRight(heap)) {
            fitting++;
        } else if (refused < 0) {
            refused = count;
            cells = 0;
            pairs = 0;
            for (List<Integer> numbers : heap.values()) {
                cells += numbers.size() == 1 ? 1 : 0;
                pairs += numbers.size() == 2 ? 1 : 0;
            }
            for (int letter : letters) {
                places[letter] = value[letter];
            }
        }
        count++;
    }

    boolean isOfRight(Map<Integer, List<Integer>> heap) {
        Map<Integer, List<Integer>> rest = new HashMap<>(heap);
        for (List<Integer> part : right.parts) {
            int x = value[part.get(1)];
            int y = value[part.get(2)];
            boolean has = part.get(0) == 0 && List.of(y).equals(rest.remove(x))
                    || part.get(0) == 1 && List.of(y, value[part.get(3)]).equals(rest.remove(x))
                    || part.get(0) == 2 && takeList(rest, x, y)
                    || part.get(0) == 3 && takeTree(rest, x);
            if (!has) {
                return false;
            }
        }
        return rest.isEmpty() && claimsSo(right);
    }

    static boolean takeList(Map<Integer, List<Integer>> rest, int x, int y) {
        if (x == y) {
            return true;
        }
        List<Integer> numbers = rest.remove(x);
        return numbers != null && numbers.size() == 1 && takeList(rest, numbers.get(0), y);
    }

    static boolean takeTree(Map<Integer, List<Integer>> rest, int x) {
        if (x == 0) {
            return true;
        }
        List<Integer> numbers = rest.remove(x);
        return numbers != null && numbers.size() == 2 && takeTree(rest, numbers.get(0))
                && takeTree(rest, numbers.get(1));
    }
}

final class Model {
    private final StringBuilder tape = new StringBuilder();
    private ModelSide[] sides = {new ModelSide(), new ModelSide()};
    private final List<ModelSide[]> past = new ArrayList<>();
    private int fault = -1;
    private int missing = 0;
    private int illegal = 0;
    private ModelProof proof = null;
    private ModelProof over = null;
    private ModelHeaps heaps = null;

    String tell() {
        return sides[0].parts + " " + sides[0].claims + " |- " + sides[1].parts + " " + sides[1].claims;
    }

    private void there(boolean is) {
        if (!is) {
            missing++;
            throw new NoSuchElementException();
        }
    }

    private void legal(boolean is) {
        if (!is) {
            illegal++;
            throw new IllegalArgumentException();
        }
    }

    private void act() {
        past.add(new ModelSide[] {sides[0].copy(), sides[1].copy()});
        if (past.size() > 10) {
            past.remove(0);
        }
        changed();
    }

    private void changed() {
        proof = null;
        over = null;
        heaps = null;
    }

    private ModelProof theProof() {
        proof = proof == null ? new ModelProof(sides[0], sides[1], false) : proof;
        return proof;
    }

    private ModelProof theOver() {
        over = over == null ? new ModelProof(sides[0], sides[1], true) : over;
        return over;
    }

    private ModelHeaps theHeaps() {
        heaps = heaps == null ? new ModelHeaps(sides[0], sides[1], letters()) : heaps;
        return heaps;
    }

    private List<Integer> letters() {
        List<Integer> letters = new ArrayList<>();
        for (int v = 1; v <= 5; v++) {
            boolean in = false;
            for (ModelSide side : sides) {
                for (List<Integer> item : side.parts) {
                    in |= item.subList(1, 4).contains(v);
                }
                for (List<Integer> item : side.claims) {
                    in |= item.subList(1, 4).contains(v);
                }
            }
            if (in) {
                letters.add(v);
            }
        }
        return letters;
    }

    int feed(int[] numbers) {
        if (tape.length() > 180) {
            return -1;
        }
        for (int number : numbers) {
            for (int shift = 24; shift >= 0; shift -= 8) {
                tape.append((char) (number >>> shift & 255));
            }
        }
        return tape.length();
    }

    int text(int n) {
        legal(n >= 0 && n <= tape.length());
        String text = tape.substring(0, n);
        tape.setLength(0);
        fault = -1;
        try {
            ModelSide[] both = new ModelReader(text).both();
            act();
            sides = both;
            return sides[0].parts.size() + sides[1].parts.size();
        } catch (ModelFault e) {
            fault = e.at;
            return e.kind - 10;
        }
    }

    int fault() {
        return fault;
    }

    int turn() {
        act();
        sides = new ModelSide[] {sides[1], sides[0]};
        return sides[0].parts.size() + sides[1].parts.size();
    }

    int drop(int side, int k) {
        there((side == 0 || side == 1) && k >= 0 && k < sides[side].parts.size());
        act();
        sides[side].parts.remove(k);
        return sides[side].parts.size();
    }

    int forget(int side, int k) {
        there((side == 0 || side == 1) && k >= 0 && k < sides[side].claims.size());
        act();
        sides[side].claims.remove(k);
        return sides[side].claims.size();
    }

    int undo() {
        if (past.isEmpty()) {
            return -1;
        }
        sides = past.remove(past.size() - 1);
        changed();
        return past.size();
    }

    int told(int what) {
        legal(what >= 0 && what <= 6);
        return new int[] {sides[0].parts.size(), sides[1].parts.size(), sides[0].claims.size(),
            sides[1].claims.size(), letters().size(), tape.length(), past.size()}[what];
    }

    int part(int side, int k, int what) {
        there((side == 0 || side == 1) && k >= 0 && k < sides[side].parts.size());
        legal(what >= 0 && what <= 3);
        return sides[side].parts.get(k).get(what);
    }

    int claim(int side, int k, int what) {
        there((side == 0 || side == 1) && k >= 0 && k < sides[side].claims.size());
        legal(what >= 0 && what <= 2);
        return sides[side].claims.get(k).get(what);
    }

    int proof(int what) {
        legal(what >= 0 && what <= 4 || what >= 10 && what <= 19);
        ModelProof p = theProof();
        if (what >= 10) {
            int times = 0;
            for (ModelSequent one : p.all) {
                times += one.step == what - 10 ? 1 : 0;
            }
            return times;
        }
        return new int[] {p.outcome, p.all.size(), p.row, p.greatest, p.stuck}[what];
    }

    int sequent(int k, int what) {
        there(k >= 0 && k < theProof().all.size());
        legal(what >= 0 && what <= 6);
        ModelSequent one = theProof().all.get(k);
        return new int[] {one.step, one.parent == null ? -1 : one.parent.number, one.left.size(),
            one.right.size(), one.claims.size(), one.differs.size(), one.alike}[what];
    }

    int partOf(int k, int side, int i, int what) {
        there(k >= 0 && k < theProof().all.size() && (side == 0 || side == 1));
        ModelSequent one = theProof().all.get(k);
        List<List<Integer>> parts = side == 0 ? one.left : one.right;
        there(i >= 0 && i < parts.size());
        legal(what >= 0 && what <= 3);
        return parts.get(i).get(what);
    }

    private List<ModelSequent> doneOnes() {
        List<ModelSequent> done = new ArrayList<>();
        for (ModelSequent one : theOver().all) {
            if (one.step == 2) {
                done.add(one);
            }
        }
        return done;
    }

    int over() {
        return theOver().outcome == 0 ? -2 : theOver().outcome == 2 ? -3 : doneOnes().size();
    }

    int overPart(int i, int k, int what) {
        there(over() >= 0 && i >= 0 && i < over());
        List<List<Integer>> parts = doneOnes().get(i).left;
        if (k == -1) {
            return parts.size();
        }
        there(k >= 0 && k < parts.size());
        legal(what >= 0 && what <= 3);
        return parts.get(k).get(what);
    }

    int heaps(int what) {
        legal(what == 0 || what == 1);
        return what == 0 ? theHeaps().count : theHeaps().fitting;
    }

    int refused(int what) {
        legal(what >= 0 && what <= 2);
        return new int[] {theHeaps().refused, theHeaps().cells, theHeaps().pairs}[what];
    }

    int place(int variable) {
        there(variable >= 1 && variable <= 5);
        return theHeaps().places[variable];
    }

    long print() {
        long sum = 0;
        for (ModelSequent one : theProof().all) {
            sum = 31 * sum + one.step;
        }
        return sum;
    }

    int status(int what) {
        return what == 0 ? missing : what == 1 ? illegal : -1;
    }
}
