import java.util.ArrayList;
import java.util.List;

/** Grows terms for walks: some that have a type that was asked for, some without any care. */
final class Grower {
    private final PlainJudge judge;
    private long seed;

    Grower(PlainJudge judge, long seed) {
        this.judge = judge;
        this.seed = seed;
    }

    int below(int n) {
        seed = seed * 6364136223846793005L + 1442695040888963407L;
        return (int) ((seed >>> 33) % n);
    }

    private static List<PlainJudge.Tree> with(List<PlainJudge.Tree> types, PlainJudge.Tree one) {
        List<PlainJudge.Tree> more = new ArrayList<>(types);
        more.add(one);
        return more;
    }

    /** A tree of any shape with about so many parts. */
    PlainJudge.Tree wild(int parts) {
        if (parts < 2) {
            int kind = below(8);
            if (kind == 0) {
                return PlainJudge.Tree.leaf(1, below(3));
            }
            if (kind == 1 && judge.constants() > 0) {
                return PlainJudge.Tree.leaf(5, below(judge.constants()));
            }
            return PlainJudge.Tree.leaf(0, below(3));
        }
        int first = 1 + below(parts - 1);
        int kind = below(6) == 0 ? 2 : below(2) == 0 ? 3 : 4;
        return PlainJudge.Tree.of(kind, wild(kind == 4 ? first : 1 + below(2)), wild(parts - first));
    }

    /** A type whose own type is that universe; null if none was found. */
    PlainJudge.Tree type(List<PlainJudge.Tree> types, int level, int deep) {
        if (deep > 0 && below(3) == 0) {
            PlainJudge.Tree a = type(types, below(level + 1), deep - 1);
            if (a == null) {
                return null;
            }
            PlainJudge.Tree b = type(with(types, a), level, deep - 1);
            return b == null ? null : PlainJudge.Tree.of(2, a, b);
        }
        if (level > 0 && below(3) > 0) {
            return PlainJudge.Tree.leaf(1, level - 1);
        }
        return leafOf(types, PlainJudge.Tree.leaf(1, level));
    }

    /** A term of that type; null if none was found. */
    PlainJudge.Tree term(List<PlainJudge.Tree> types, PlainJudge.Tree want, int deep) {
        if (deep <= 0) {
            return want.kind() == 1 ? type(types, want.sign(), 0) : leafOf(types, want);
        }
        for (int tries = 0; tries < 4; tries++) {
            PlainJudge.Tree found = oneTerm(types, want, deep, below(8));
            if (found != null) {
                return found;
            }
        }
        return leafOf(types, want);
    }

    private PlainJudge.Tree oneTerm(List<PlainJudge.Tree> types, PlainJudge.Tree want, int deep, int way) {
        if (way < 2) {
            return redex(types, want, deep);
        }
        if (way == 2) {
            return applied(types, want, deep);
        }
        if (want.kind() == 1) {
            return type(types, want.sign(), deep - 1);
        }
        if (want.kind() == 2) {
            PlainJudge.Tree body = term(with(types, want.a()), want.b(), deep - 1);
            return body == null ? null : PlainJudge.Tree.of(3, want.a(), body);
        }
        return leafOf(types, want);
    }

    private PlainJudge.Tree redex(List<PlainJudge.Tree> types, PlainJudge.Tree want, int deep) {
        PlainJudge.Tree a = type(types, below(2), deep - 2);
        if (a == null) {
            return null;
        }
        PlainJudge.Tree f = term(types, PlainJudge.Tree.of(2, a, want.raise(1, 0)), deep - 1);
        PlainJudge.Tree x = f == null ? null : term(types, a, deep - 2);
        return x == null ? null : PlainJudge.Tree.of(4, f, x);
    }

    /** A variable or a constant that is a function, applied, where that has the type. */
    private PlainJudge.Tree applied(List<PlainJudge.Tree> types, PlainJudge.Tree want, int deep) {
        PlainJudge.Tree f = anyLeaf(types);
        PlainJudge.Tree type = f == null ? null : typeOfLeaf(types, f);
        if (type == null || type.kind() != 2) {
            return null;
        }
        PlainJudge.Tree x = term(types, type.a(), deep - 1);
        if (x == null || !type.b().put(x, 0).equals(want)) {
            return null;
        }
        return PlainJudge.Tree.of(4, f, x);
    }

    private PlainJudge.Tree anyLeaf(List<PlainJudge.Tree> types) {
        int all = types.size() + judge.constants();
        if (all == 0) {
            return null;
        }
        int i = below(all);
        return i < types.size() ? PlainJudge.Tree.leaf(0, i) : PlainJudge.Tree.leaf(5, i - types.size());
    }

    private PlainJudge.Tree typeOfLeaf(List<PlainJudge.Tree> types, PlainJudge.Tree leaf) {
        if (leaf.kind() == 5) {
            return judge.constantType(leaf.sign());
        }
        return types.get(types.size() - 1 - leaf.sign()).raise(leaf.sign() + 1, 0);
    }

    private PlainJudge.Tree leafOf(List<PlainJudge.Tree> types, PlainJudge.Tree want) {
        List<PlainJudge.Tree> fitting = new ArrayList<>();
        for (int i = 0; i < types.size() + judge.constants(); i++) {
            PlainJudge.Tree leaf = i < types.size()
                    ? PlainJudge.Tree.leaf(0, i)
                    : PlainJudge.Tree.leaf(5, i - types.size());
            if (typeOfLeaf(types, leaf).equals(want)) {
                fitting.add(leaf);
            }
        }
        return fitting.isEmpty() ? null : fitting.get(below(fitting.size()));
    }
}
