import java.util.ArrayList;
import java.util.List;

/** The document's rules once more, in whole trees and without any care for room: for comparison. */
final class PlainJudge {
    /** A term as a tree; sign is a of the kinds 0, 1 and 5. */
    record Tree(int kind, int sign, Tree a, Tree b) {
        static Tree leaf(int kind, int sign) {
            return new Tree(kind, sign, null, null);
        }

        static Tree of(int kind, Tree a, Tree b) {
            return new Tree(kind, 0, a, b);
        }

        boolean whole() {
            return a == null;
        }

        int size() {
            return whole() ? 1 : 1 + a.size() + b.size();
        }

        int depth() {
            return whole() ? 1 : 1 + Math.max(a.depth(), b.depth());
        }

        boolean tooMuch() {
            return size() > 60 || depth() > 12;
        }

        String how() {
            return size() <= 60 ? " (deep)" : depth() <= 12 ? " (nodes)" : " (both)";
        }

        Tree raise(int by, int from) {
            if (kind == 0) {
                return sign >= from ? leaf(0, sign + by) : this;
            }
            return whole() ? this : of(kind, a.raise(by, from), b.raise(by, kind == 4 ? from : from + 1));
        }

        Tree put(Tree x, int at) {
            if (kind == 0) {
                return sign == at ? x.raise(at, 0) : sign > at ? leaf(0, sign - 1) : this;
            }
            return whole() ? this : of(kind, a.put(x, at), b.put(x, kind == 4 ? at : at + 1));
        }

        void marks(List<Integer> into) {
            into.add(whole() ? kind + 10 * sign : kind);
            if (!whole()) {
                a.marks(into);
                b.marks(into);
            }
        }
    }

    private record Made(int kind, int a, int b, Tree tree) {
    }

    static final List<String> REASONS = List.of("fuel", "reduction (deep)", "reduction (nodes)", "put (deep)",
            "put (nodes)", "pi (deep)", "pi (nodes)");

    private record Constant(Tree type, Tree body) {
    }

    private final List<Made> made = new ArrayList<>();
    private final List<Constant> declared = new ArrayList<>();
    private List<Integer> result = List.of();
    private Tree resultTree = null;
    private int count = 0;
    private int limit = 0;
    private String reason = "";

    Tree tree(int t) {
        return made.get(t).tree;
    }

    Tree constantType(int c) {
        return declared.get(c).type;
    }

    int make(int kind, int a, int b) {
        if (made.size() == 120) {
            return -1;
        }
        Tree tree = null;
        if (kind == 0 || kind == 1) {
            tree = a < 0 || a > 9 ? null : Tree.leaf(kind, a);
        } else if (kind == 5) {
            tree = a < 0 || a >= declared.size() ? null : Tree.leaf(kind, a);
        } else if (kind >= 2 && kind <= 4 && there(a) && there(b)) {
            tree = Tree.of(kind, tree(a), tree(b));
        }
        if (tree == null || tree.tooMuch()) {
            return -1;
        }
        made.add(new Made(kind, a, tree.whole() ? -1 : b, tree));
        return made.size() - 1;
    }

    private boolean there(int t) {
        return t >= 0 && t < made.size();
    }

    int terms() {
        return made.size();
    }

    int term(int t, int what) {
        if (!there(t) || what < 0 || what > 4) {
            return -1;
        }
        Made m = made.get(t);
        return new int[] {m.kind, m.a, m.b, m.tree.size(), m.tree.depth()}[what];
    }

    int infer(int t, int fuel) {
        begin(t, t, fuel);
        return become(type(tree(t), List.of()));
    }

    int reduce(int t, int fuel) {
        begin(t, t, fuel);
        return become(head(tree(t)));
    }

    boolean same(int s, int t, int fuel) {
        begin(s, t, fuel);
        return alike(tree(s), tree(t));
    }

    boolean check(int t, int type, int fuel) {
        begin(t, type, fuel);
        level(tree(type), List.of());
        Tree found = type(tree(t), List.of());
        return alike(found, tree(type));
    }

    int declare(int type, int fuel) {
        if (declared.size() == 16) {
            count = 0;
            return -1;
        }
        begin(type, type, fuel);
        level(tree(type), List.of());
        declared.add(new Constant(tree(type), null));
        return declared.size() - 1;
    }

    int define(int body, int fuel) {
        if (declared.size() == 16) {
            count = 0;
            return -1;
        }
        begin(body, body, fuel);
        Tree type = type(tree(body), List.of());
        List<Integer> marks = new ArrayList<>();
        type.marks(marks);
        for (int m : marks) {
            if (m % 10 == 1 && m > 91) {
                return -1;
            }
        }
        declared.add(new Constant(type, tree(body)));
        return declared.size() - 1;
    }

    int constants() {
        return declared.size();
    }

    boolean hasBody(int c) {
        return c >= 0 && c < declared.size() && declared.get(c).body != null;
    }

    int typeOf(int c) {
        return c >= 0 && c < declared.size() ? become(declared.get(c).type) : -1;
    }

    int mark(int k) {
        return k >= 0 && k < result.size() ? result.get(k) : -1;
    }

    int keep() {
        if (resultTree == null) {
            return -1;
        }
        for (int m : result) {
            if (m % 10 <= 1 && m / 10 > 9) {
                return -1;
            }
        }
        List<Made> before = new ArrayList<>(made);
        int number = kept(resultTree);
        if (made.size() > 120) {
            made.clear();
            made.addAll(before);
            return -1;
        }
        return number;
    }

    private int kept(Tree tree) {
        int a = tree.whole() ? tree.sign : kept(tree.a);
        int b = tree.whole() ? -1 : kept(tree.b);
        for (int i = 0; i < made.size(); i++) {
            Made m = made.get(i);
            if (m.kind == tree.kind && m.a == a && m.b == b) {
                return i;
            }
        }
        made.add(new Made(tree.kind, a, b, tree));
        return made.size() - 1;
    }

    /** Why the latest call that was TOO MUCH was so. */
    String latestReason() {
        return reason;
    }

    int reduced() {
        return count;
    }

    private void begin(int s, int t, int fuel) {
        if (!there(s) || !there(t) || fuel < 0 || fuel > 30) {
            throw new IllegalArgumentException();
        }
        count = 0;
        limit = fuel;
    }

    private int become(Tree tree) {
        resultTree = tree;
        result = new ArrayList<>();
        tree.marks(result);
        return tree.size();
    }

    /** The term after its next reduction; null if there is none. */
    private Tree step(Tree t) {
        if (t.kind == 5) {
            return declared.get(t.sign).body;
        }
        if (t.kind != 4) {
            return null;
        }
        if (t.a.kind == 3) {
            return t.a.b.put(t.b, 0);
        }
        Tree inner = step(t.a);
        return inner == null ? null : Tree.of(4, inner, t.b);
    }

    private Tree head(Tree t) {
        Tree now = t;
        for (Tree next = step(now); next != null; next = step(now)) {
            if (count == limit) {
                reason = "fuel";
                throw new UnsupportedOperationException();
            }
            fitting(next, "reduction");
            count++;
            now = next;
        }
        return now;
    }

    private boolean alike(Tree s, Tree t) {
        Tree first = head(s);
        Tree second = head(t);
        if (first.kind != second.kind) {
            return false;
        }
        if (first.whole()) {
            return first.sign == second.sign;
        }
        return alike(first.a, second.a) && alike(first.b, second.b);
    }

    private static List<Tree> with(List<Tree> types, Tree one) {
        List<Tree> more = new ArrayList<>(types);
        more.add(one);
        return more;
    }

    private int level(Tree t, List<Tree> types) {
        Tree type = head(type(t, types));
        if (type.kind != 1) {
            throw new IllegalStateException();
        }
        return type.sign;
    }

    private Tree fitting(Tree t, String what) {
        if (t.tooMuch()) {
            reason = what + t.how();
            throw new UnsupportedOperationException();
        }
        return t;
    }

    private Tree type(Tree t, List<Tree> types) {
        if (t.kind == 0) {
            if (t.sign >= types.size()) {
                throw new IllegalStateException();
            }
            return types.get(types.size() - 1 - t.sign).raise(t.sign + 1, 0);
        }
        if (t.kind == 1) {
            return Tree.leaf(1, t.sign + 1);
        }
        if (t.kind == 5) {
            return declared.get(t.sign).type;
        }
        if (t.kind == 2) {
            int outer = level(t.a, types);
            return Tree.leaf(1, Math.max(outer, level(t.b, with(types, t.a))));
        }
        if (t.kind == 3) {
            level(t.a, types);
            return fitting(Tree.of(2, t.a, type(t.b, with(types, t.a))), "pi");
        }
        Tree pi = head(type(t.a, types));
        if (pi.kind != 2) {
            throw new IllegalStateException();
        }
        if (!alike(type(t.b, types), pi.a)) {
            throw new IllegalStateException();
        }
        return fitting(pi.b.put(t.b, 0), "put");
    }
}
