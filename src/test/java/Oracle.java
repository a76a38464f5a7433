import java.util.ArrayDeque;
import java.util.ArrayList;
import java.util.Arrays;
import java.util.BitSet;
import java.util.HashMap;
import java.util.HashSet;
import java.util.LinkedHashMap;
import java.util.List;
import java.util.Map;
import java.util.Set;

/**
 * The document said again, as literally and as slowly as can be, to hold the class against: a tree walked by
 * recursion, rows of ways searched one by one, places that are texts, stacks of calls that are lists.
 */
final class Oracle {
    static final class Bad extends RuntimeException {
        final int fault;

        Bad(int kind, int place) {
            fault = kind + 8 * place;
        }
    }

    static final class Block {
        final List<Node> items = new ArrayList<>();
        Node holder;
        int procedure;
        int depth;
    }

    static final class Node {
        int id = -1;
        char sort;
        int at;
        Block home;
        char target;
        char callee;
        char sign;
        String left;
        String right;
        Block one;
        Block two;
    }

    static final class Way {
        final String to;
        final Set<Character> tells = new HashSet<>();
        final boolean gone;

        Way(String to, boolean gone) {
            this.to = to;
            this.gone = gone;
        }
    }

    static final class Tie {
        final String to;
        final char how;
        final Node call;

        Tie(String to, char how, Node call) {
            this.to = to;
            this.how = how;
            this.call = call;
        }
    }

    final String text;
    int pos;
    final List<Node> statements = new ArrayList<>();
    final List<Block> procedures = new ArrayList<>();
    final Set<Character> mayReturn = new HashSet<>();
    final Set<Character> mayThrow = new HashSet<>();
    final Map<String, List<Tie>> ties = new LinkedHashMap<>();
    final int[][] hangs;

    Oracle(String text) {
        this.text = text;
        parse();
        for (Node n : statements) {
            if (n.sort == 'C' && n.callee - 'A' >= procedures.size()) {
                throw new Bad(5, text.length());
            }
        }
        may();
        for (int p = 0; p < procedures.size(); p++) {
            char letter = (char) ('A' + p);
            if (!mayReturn.contains(letter) && !mayThrow.contains(letter)) {
                throw new Bad(6, text.length());
            }
        }
        hangs = new int[statements.size()][statements.size()];
        places();
        values();
        ways();
        across();
    }

    // ---- the text

    char peek() {
        while (pos < text.length() && (text.charAt(pos) == ' ' || text.charAt(pos) == '\n')) {
            pos++;
        }
        return pos < text.length() ? text.charAt(pos) : 0xFFFF;
    }

    void expect(char c) {
        if (peek() != c) {
            throw new Bad(1, pos);
        }
        pos++;
    }

    void parse() {
        do {
            char c = peek();
            if (c < 'A' || c > 'Z') {
                throw new Bad(1, pos);
            }
            if (procedures.size() == 5 || c != 'A' + procedures.size()) {
                throw new Bad(3, pos);
            }
            pos++;
            Block b = new Block();
            b.procedure = procedures.size();
            procedures.add(b);
            fill(b);
        } while (peek() != 0xFFFF);
    }

    void fill(Block b) {
        if (peek() == '{' && b.depth == 7) {
            throw new Bad(4, pos);
        }
        expect('{');
        while (peek() != '}') {
            b.items.add(statement(b));
        }
        pos++;
    }

    Block inner(Node holder) {
        Block b = new Block();
        b.holder = holder;
        b.procedure = holder.home.procedure;
        b.depth = holder.home.depth + 1;
        fill(b);
        return b;
    }

    static boolean variable(char c) {
        return "abcdef".indexOf(c) >= 0;
    }

    static boolean name(char c) {
        return "abcdefwxyz".indexOf(c) >= 0;
    }

    Node statement(Block home) {
        Node n = new Node();
        n.home = home;
        n.at = pos;
        char c = peek();
        n.at = pos;
        if (c == '%') {
            n.sort = 'Y';
            pos++;
            n.one = inner(n);
            if (!variable(peek())) {
                throw new Bad(1, pos);
            }
            n.target = peek();
            pos++;
            n.two = inner(n);
            return n;
        }
        if (!name(c) && "?@!^".indexOf(c) < 0) {
            throw new Bad(1, pos);
        }
        if (statements.size() == 40) {
            throw new Bad(4, pos);
        }
        n.id = statements.size();
        statements.add(n);
        pos++;
        if (c == '?' || c == '@') {
            n.sort = c == '?' ? 'T' : 'L';
            n.left = operand();
            expect('<');
            n.right = operand();
            n.one = inner(n);
            if (c == '?' && peek() == ':') {
                pos++;
                n.two = inner(n);
            }
        } else if (c == '!' || c == '^') {
            n.sort = c == '!' ? 'W' : 'R';
            n.left = operand();
            expect(';');
        } else {
            assignment(n, c);
        }
        return n;
    }

    void assignment(Node n, char c) {
        n.target = c;
        expect('=');
        char d = peek();
        if (variable(c) && d >= 'A' && d <= 'E') {
            n.sort = 'C';
            n.callee = d;
            pos++;
            expect('(');
            n.left = operand();
            expect(',');
            n.right = operand();
            expect(')');
        } else {
            n.sort = 'S';
            n.left = operand();
            if ("+-*<".indexOf(peek()) >= 0) {
                n.sign = peek();
                pos++;
                n.right = operand();
            }
        }
        expect(';');
    }

    String operand() {
        char c = peek();
        if (name(c)) {
            pos++;
            return String.valueOf(c);
        }
        if (c < '0' || c > '9') {
            throw new Bad(1, pos);
        }
        int from = pos;
        while (pos < text.length() && text.charAt(pos) >= '0' && text.charAt(pos) <= '9') {
            pos++;
        }
        if (pos - from > 3) {
            throw new Bad(2, from);
        }
        return text.substring(from, pos);
    }

    // ---- ways

    static String end(int procedure) {
        return "end" + procedure;
    }

    static String me(Node n) {
        return "s" + n.id;
    }

    /** What is come to where a block begins, or where it is left if it has nothing to be done. */
    String enter(Block b, int from) {
        for (int i = from; i < b.items.size(); i++) {
            Node n = b.items.get(i);
            if (n.sort != 'Y') {
                return me(n);
            }
            if (enters(n.one, 0)) {
                return enter(n.one, 0);
            }
        }
        return leave(b);
    }

    boolean enters(Block b, int from) {
        for (int i = from; i < b.items.size(); i++) {
            Node n = b.items.get(i);
            if (n.sort != 'Y' || enters(n.one, 0)) {
                return true;
            }
        }
        return false;
    }

    String leave(Block b) {
        if (b.holder == null) {
            return end(b.procedure);
        }
        return b.holder.sort == 'L' ? me(b.holder) : behind(b.holder);
    }

    String behind(Node n) {
        return enter(n.home, n.home.items.indexOf(n) + 1);
    }

    /** The try that catches what a node throws. */
    Node catcher(Node n) {
        Block b = n.home;
        while (b.holder != null) {
            if (b.holder.sort == 'Y' && b == b.holder.one) {
                return b.holder;
            }
            b = b.holder.home;
        }
        return null;
    }

    List<Way> waysFrom(Node n) {
        List<Way> ways = new ArrayList<>();
        int p = n.home.procedure;
        Node t = catcher(n);
        if (n.sort == 'S') {
            ways.add(new Way(behind(n), true));
            ways.get(0).tells.add(n.target);
        } else if (n.sort == 'T' || n.sort == 'L') {
            ways.add(new Way(enter(n.one, 0), true));
            ways.add(new Way(n.two == null ? behind(n) : enter(n.two, 0), true));
        } else if (n.sort == 'R') {
            ways.add(new Way(end(p), true));
            ways.add(new Way(behind(n), false));
        } else {
            boolean back = n.sort == 'C' && mayReturn.contains(n.callee);
            Way on = new Way(behind(n), back);
            if (n.sort == 'C') {
                on.tells.addAll(Arrays.asList(n.target, 'w', 'x', 'y', 'z'));
            }
            ways.add(on);
            if (n.sort == 'W' || mayThrow.contains(n.callee)) {
                Way away = new Way(t == null ? end(p) : enter(t.two, 0), true);
                if (n.sort == 'C') {
                    away.tells.addAll(Arrays.asList('w', 'x', 'y', 'z'));
                }
                if (t != null) {
                    away.tells.add(t.target);
                }
                ways.add(away);
            }
        }
        return ways;
    }

    Node nodeOf(String s) {
        return s.startsWith("s") ? statements.get(Integer.parseInt(s.substring(1))) : null;
    }

    void may() {
        boolean more = true;
        while (more) {
            more = false;
            for (int p = 0; p < procedures.size(); p++) {
                Set<String> reached = new HashSet<>();
                boolean[] threw = {false};
                reach(enter(procedures.get(p), 0), reached, threw);
                if (reached.contains(end(p))) {
                    more |= mayReturn.add((char) ('A' + p));
                }
                if (threw[0]) {
                    more |= mayThrow.add((char) ('A' + p));
                }
            }
        }
    }

    void reach(String at, Set<String> reached, boolean[] threw) {
        if (!reached.add(at)) {
            return;
        }
        Node n = nodeOf(at);
        if (n == null) {
            return;
        }
        boolean thrower = n.sort == 'W' || n.sort == 'C' && mayThrow.contains(n.callee);
        List<Way> ways = waysFrom(n);
        for (int i = 0; i < ways.size(); i++) {
            boolean away = thrower && i == 1;
            if (away && catcher(n) == null) {
                threw[0] = true;
            } else if (ways.get(i).gone) {
                reach(ways.get(i).to, reached, threw);
            }
        }
    }

    // ---- places

    void tie(String from, String to, char how, Node call) {
        for (Tie t : ties.get(from)) {
            if (t.to.equals(to) && t.how == how && t.call == call) {
                return;
            }
        }
        ties.get(from).add(new Tie(to, how, call));
    }

    void tie(String from, String to) {
        tie(from, to, '=', null);
    }

    void places() {
        for (Node n : statements) {
            ties.put(me(n), new ArrayList<>());
            if (n.sort == 'C') {
                for (int k = 0; k < 6; k++) {
                    ties.put(me(n) + ".in" + k, new ArrayList<>());
                    ties.put(me(n) + ".out" + k, new ArrayList<>());
                    tie(me(n) + ".in" + k, me(n));
                    tie(me(n) + ".out" + k, me(n));
                }
            }
        }
        for (int p = 0; p < procedures.size(); p++) {
            ties.put("p" + p, new ArrayList<>());
            for (int k = 0; k < 6; k++) {
                ties.put("p" + p + ".in" + k, new ArrayList<>());
                ties.put("p" + p + ".out" + k, new ArrayList<>());
            }
        }
    }

    static List<String> placesOf(Node n) {
        List<String> all = new ArrayList<>();
        all.add(me(n));
        if (n.sort == 'C') {
            for (int k = 0; k < 6; k++) {
                all.add(me(n) + ".in" + k);
                all.add(me(n) + ".out" + k);
            }
        }
        return all;
    }

    /** All places that use a name at a statement or an end. */
    List<String> uses(String at, char name) {
        List<String> all = new ArrayList<>();
        Node n = nodeOf(at);
        int field = "wxyz".indexOf(name);
        if (n == null) {
            if (field >= 0) {
                all.add("p" + at.substring(3) + ".out" + (field + 2));
            }
            return all;
        }
        boolean call = n.sort == 'C';
        if (String.valueOf(name).equals(n.left)) {
            all.add(call ? me(n) + ".in0" : me(n));
        }
        if (String.valueOf(name).equals(n.right)) {
            all.add(call ? me(n) + ".in1" : me(n));
        }
        if (call && field >= 0) {
            all.add(me(n) + ".in" + (field + 2));
        }
        return all;
    }

    void carry(String at, char name, String teller, Set<String> been) {
        if (!been.add(at)) {
            return;
        }
        Node n = nodeOf(at);
        for (String use : uses(at, name)) {
            tie(use, teller);
            if (n != null && teller.startsWith("s")) {
                hangs[n.id][idOf(teller)] |= 1;
            }
        }
        if (n != null) {
            for (Way w : waysFrom(n)) {
                if (w.gone && !w.tells.contains(name)) {
                    carry(w.to, name, teller, been);
                }
            }
        }
    }

    static int idOf(String place) {
        int dot = place.indexOf('.');
        return Integer.parseInt(place.substring(1, dot < 0 ? place.length() : dot));
    }

    void values() {
        for (Node n : statements) {
            for (Way w : waysFrom(n)) {
                if (w.gone) {
                    for (char name : w.tells) {
                        int field = "wxyz".indexOf(name);
                        String out = field < 0 ? ".out0" : ".out" + (field + 2);
                        carry(w.to, name, n.sort == 'C' ? me(n) + out : me(n), new HashSet<>());
                    }
                }
            }
        }
        for (int p = 0; p < procedures.size(); p++) {
            for (int k = 0; k < 6; k++) {
                String first = enter(procedures.get(p), 0);
                carry(first, "abwxyz".charAt(k), "p" + p + ".in" + k, new HashSet<>());
            }
        }
        for (Node n : statements) {
            int p = n.home.procedure;
            boolean thrower = n.sort == 'W' || n.sort == 'C' && mayThrow.contains(n.callee);
            if (n.sort == 'R' || thrower && catcher(n) == null) {
                tie("p" + p + ".out0", n.sort == 'C' ? me(n) + ".out0" : me(n));
                if (mayThrow.contains((char) ('A' + p))) {
                    tie("p" + p + ".out1", n.sort == 'C' ? me(n) + ".out1" : me(n));
                }
            }
        }
    }

    /** Whether some row of ways leads to an end and leaves a statement out. */
    boolean misses(String at, String left, Set<String> been) {
        if (at.equals(left) || !been.add(at)) {
            return false;
        }
        Node n = nodeOf(at);
        if (n == null) {
            return true;
        }
        for (Way w : waysFrom(n)) {
            if (misses(w.to, left, been)) {
                return true;
            }
        }
        return false;
    }

    boolean decides(Node n) {
        return "TLWR".indexOf(n.sort) >= 0 || n.sort == 'C' && mayThrow.contains(n.callee);
    }

    void ways() {
        for (Node x : statements) {
            if (!decides(x)) {
                continue;
            }
            List<Way> two = waysFrom(x);
            for (Node y : statements) {
                boolean m = misses(two.get(0).to, me(y), new HashSet<>());
                boolean o = misses(two.get(1).to, me(y), new HashSet<>());
                if (m != o) {
                    hangs[y.id][x.id] |= 2;
                    tie(me(y), x.sort == 'C' ? me(x) + ".out1" : me(x));
                }
            }
        }
        for (Node y : statements) {
            if (onBegin(y)) {
                tie(me(y), "p" + y.home.procedure);
            }
        }
    }

    boolean onBegin(Node y) {
        return !misses(enter(procedures.get(y.home.procedure), 0), me(y), new HashSet<>());
    }

    void across() {
        for (Node n : statements) {
            if (n.sort == 'C') {
                String p = "p" + (n.callee - 'A');
                tie(p, me(n), 'u', n);
                for (int k = 0; k < 6; k++) {
                    tie(p + ".in" + k, me(n) + ".in" + k, 'u', n);
                    tie(me(n) + ".out" + k, p + ".out" + k, 'd', n);
                }
            }
        }
    }

    // ---- slices

    boolean recursive() {
        for (int p = 0; p < procedures.size(); p++) {
            if (deepFrom((char) ('A' + p), 0) > procedures.size()) {
                return true;
            }
        }
        return false;
    }

    int deepFrom(char letter, int depth) {
        if (depth > procedures.size()) {
            return depth;
        }
        int deep = depth;
        for (Node n : statements) {
            if (n.sort == 'C' && n.home.procedure == letter - 'A') {
                deep = Math.max(deep, deepFrom(n.callee, depth + 1));
            }
        }
        return deep;
    }

    /** All places to which rows that match lead, with the stack of downs written out (up to a depth). */
    Set<String> backByStacks(String from, int deepest) {
        Set<List<String>> been = new HashSet<>();
        ArrayDeque<List<String>> todo = new ArrayDeque<>();
        List<String> start = List.of(from);
        been.add(start);
        todo.add(start);
        Set<String> found = new HashSet<>();
        while (!todo.isEmpty()) {
            List<String> state = todo.poll();
            found.add(state.get(0));
            for (Tie t : ties.get(state.get(0))) {
                List<String> next = new ArrayList<>(state);
                next.set(0, t.to);
                if (t.how == 'd') {
                    next.add(me(t.call));
                } else if (t.how == 'u' && next.size() > 1) {
                    if (!next.remove(next.size() - 1).equals(me(t.call))) {
                        continue;
                    }
                }
                if (next.size() <= deepest + 1 && been.add(next)) {
                    todo.add(next);
                }
            }
        }
        return found;
    }

    private List<String> names;
    private Map<String, Integer> index;
    private BitSet[] level;

    /** Saturates: rows that go down and come back, for any depth. */
    void saturate() {
        if (level != null) {
            return;
        }
        names = new ArrayList<>(ties.keySet());
        index = new HashMap<>();
        for (int i = 0; i < names.size(); i++) {
            index.put(names.get(i), i);
        }
        level = new BitSet[names.size()];
        for (int i = 0; i < level.length; i++) {
            level[i] = new BitSet();
            level[i].set(i);
        }
        boolean more = true;
        while (more) {
            more = false;
            for (int i = 0; i < level.length; i++) {
                BitSet grown = (BitSet) level[i].clone();
                for (int j = level[i].nextSetBit(0); j >= 0; j = level[i].nextSetBit(j + 1)) {
                    for (Tie t : ties.get(names.get(j))) {
                        if (t.how == '=') {
                            grown.or(level[index.get(t.to)]);
                        } else if (t.how == 'd') {
                            comeBack(t, grown);
                        }
                    }
                }
                if (!grown.equals(level[i])) {
                    level[i] = grown;
                    more = true;
                }
            }
        }
    }

    void comeBack(Tie down, BitSet grown) {
        BitSet below = level[index.get(down.to)];
        for (int e = below.nextSetBit(0); e >= 0; e = below.nextSetBit(e + 1)) {
            for (Tie up : ties.get(names.get(e))) {
                if (up.how == 'u' && up.call == down.call) {
                    grown.or(level[index.get(up.to)]);
                }
            }
        }
    }

    Set<String> backBySaturation(String from) {
        saturate();
        BitSet all = new BitSet();
        all.set(index.get(from));
        for (char how : new char[] {'u', 'd'}) {
            BitSet before;
            do {
                before = (BitSet) all.clone();
                for (int i = before.nextSetBit(0); i >= 0; i = before.nextSetBit(i + 1)) {
                    all.or(level[i]);
                    for (Tie t : ties.get(names.get(i))) {
                        if (t.how == how) {
                            all.set(index.get(t.to));
                        }
                    }
                }
            } while (!before.equals(all));
        }
        Set<String> found = new HashSet<>();
        for (int i = all.nextSetBit(0); i >= 0; i = all.nextSetBit(i + 1)) {
            found.add(names.get(i));
        }
        return found;
    }

    private final Map<String, Set<String>> backs = new HashMap<>();

    Set<String> backPlaces(String from) {
        return backs.computeIfAbsent(from, this::backBySaturation);
    }

    static long bits(Set<String> places) {
        long all = 0;
        for (String s : places) {
            if (s.startsWith("s")) {
                all |= 1L << idOf(s);
            }
        }
        return all;
    }

    Set<String> backPlacesOf(int statement) {
        Set<String> all = new HashSet<>();
        for (String place : placesOf(statements.get(statement))) {
            all.addAll(backPlaces(place));
        }
        return all;
    }

    long back(int statement) {
        return bits(backPlacesOf(statement));
    }

    long forth(int statement) {
        long all = 0;
        for (Node n : statements) {
            if ((back(n.id) >> statement & 1) != 0) {
                all |= 1L << n.id;
            }
        }
        return all;
    }

    long backOf(int p, int k) {
        return bits(backPlaces("p" + p + ".out" + k));
    }

    boolean summary(int call, int i, int k) {
        saturate();
        Node n = statements.get(call);
        if (n.sort != 'C') {
            return false;
        }
        String p = "p" + (n.callee - 'A');
        return level[index.get(p + ".out" + k)].get(index.get(p + ".in" + i));
    }

    long kept(int statement) {
        Set<String> all = backPlacesOf(statement);
        boolean more = true;
        while (more) {
            more = false;
            for (Node n : statements) {
                for (int k = 0; k < 6 && n.sort == 'C'; k++) {
                    if (all.contains(me(n)) && all.contains("p" + (n.callee - 'A') + ".in" + k)) {
                        more |= all.addAll(backPlaces(me(n) + ".in" + k));
                    }
                }
            }
        }
        return bits(all);
    }

    long begun(int p) {
        long all = 0;
        for (Node n : statements) {
            if (n.home.procedure == p && onBegin(n)) {
                all |= 1L << n.id;
            }
        }
        return all;
    }

    int of(int statement, int what) {
        Node n = statements.get(statement);
        switch (what) {
            case 0: return "SCTLWR".indexOf(n.sort);
            case 1: return n.home.procedure;
            case 2: return n.home.depth;
            case 3: return n.sort == 'C' ? n.callee - 'A' : -2;
            case 4: return n.at;
            case 5: {
                Node t = catcher(n);
                return t == null || !enters(t.two, 0) ? -2 : nodeOf(enter(t.two, 0)).id;
            }
            default: return decides(n) ? 1 : 0;
        }
    }

    int letters(Set<Character> set) {
        int all = 0;
        for (char c : set) {
            all |= 1 << (c - 'A');
        }
        return all;
    }

    // ---- runs

    static final class Thrown extends RuntimeException {
        final int value;

        Thrown(int value) {
            super(null, null, false, false);
            this.value = value;
        }
    }

    static final class Back extends RuntimeException {
        final int value;

        Back(int value) {
            super(null, null, false, false);
            this.value = value;
        }
    }

    static final class Cut extends RuntimeException {
        Cut() {
            super(null, null, false, false);
        }
    }

    final Map<Character, Integer> fields = new HashMap<>();
    final List<int[]> sights = new ArrayList<>();
    int done;
    int value;
    long keep;

    int run(long keeping, int a, int b) {
        keep = keeping;
        done = 0;
        value = 0;
        sights.clear();
        for (char c : "wxyz".toCharArray()) {
            fields.put(c, 0);
        }
        try {
            value = callProcedure(0, a, b, 0);
            return 0;
        } catch (Thrown t) {
            value = t.value;
            return 1;
        } catch (Cut c) {
            return 2;
        }
    }

    int callProcedure(int p, int a, int b, int depth) {
        Map<Character, Integer> vars = new HashMap<>();
        for (char c : "abcdef".toCharArray()) {
            vars.put(c, 0);
        }
        vars.put('a', a);
        vars.put('b', b);
        try {
            perform(procedures.get(p), vars, depth);
            return 0;
        } catch (Back r) {
            return r.value;
        }
    }

    int get(String o, Map<Character, Integer> vars) {
        char c = o.charAt(0);
        if (c >= '0' && c <= '9') {
            return Integer.parseInt(o);
        }
        return variable(c) ? vars.get(c) : fields.get(c);
    }

    void put(char c, int v, Map<Character, Integer> vars) {
        (variable(c) ? vars : fields).put(c, v);
    }

    void see(Node n, int v) {
        if (sights.size() < 500) {
            sights.add(new int[] {n.id, v});
        }
    }

    void count() {
        if (done == 3000) {
            throw new Cut();
        }
        done++;
    }

    void perform(Block block, Map<Character, Integer> vars, int depth) {
        for (Node n : block.items) {
            if (n.sort == 'Y') {
                try {
                    perform(n.one, vars, depth);
                } catch (Thrown t) {
                    put(n.target, t.value, vars);
                    perform(n.two, vars, depth);
                }
            } else if ((keep >> n.id & 1) != 0) {
                one(n, vars, depth);
            }
        }
    }

    void one(Node n, Map<Character, Integer> vars, int depth) {
        count();
        int l = get(n.left, vars);
        int r = n.right == null ? 0 : get(n.right, vars);
        switch (n.sort) {
            case 'S':
                int v = n.sign == '+' ? l + r : n.sign == '-' ? l - r : n.sign == '*' ? l * r
                    : n.sign == '<' ? (l < r ? 1 : 0) : l;
                put(n.target, v, vars);
                see(n, v);
                break;
            case 'T':
                see(n, l < r ? 1 : 0);
                if (l < r) {
                    perform(n.one, vars, depth);
                } else if (n.two != null) {
                    perform(n.two, vars, depth);
                }
                break;
            case 'L':
                boolean so = l < r;
                see(n, so ? 1 : 0);
                while (so) {
                    perform(n.one, vars, depth);
                    count();
                    so = get(n.left, vars) < get(n.right, vars);
                    see(n, so ? 1 : 0);
                }
                break;
            case 'W':
                see(n, l);
                throw new Thrown(l);
            case 'R':
                see(n, l);
                throw new Back(l);
            default:
                if (depth == 30) {
                    throw new Cut();
                }
                try {
                    int got = callProcedure(n.callee - 'A', l, r, depth + 1);
                    see(n, got);
                    put(n.target, got, vars);
                } catch (Thrown t) {
                    see(n, t.value);
                    throw t;
                }
        }
    }
}
