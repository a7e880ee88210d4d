import java.util.ArrayList;
import java.util.Arrays;
import java.util.List;
import java.util.NoSuchElementException;
import java.util.Random;
import java.util.TreeMap;
import java.util.TreeSet;

/**
 * Random runs of calls, each made to CopiedPages and to a second reading of the document that is written as
 * plainly and as unlike as can be (nodes as objects, the law read anew for each write, states copied whole).
 */
public final class CopiedPagesAgainstModel {
    static final int NONE = -1;

    // ------------------------------------------------------------------ the model

    static final class Sheet {
        int kind;
        int wear;
        int next = NONE;
        List<int[]> rows = new ArrayList<>();
        int number;
        int tree = NONE;
        int list = NONE;
        int high = 2;

        Sheet copy() {
            Sheet c = new Sheet();
            c.kind = kind;
            c.wear = wear;
            c.next = next;
            for (int[] r : rows) {
                c.rows.add(r.clone());
            }
            c.number = number;
            c.tree = tree;
            c.list = list;
            c.high = high;
            return c;
        }
    }

    static final class World {
        Sheet[] disk = new Sheet[48];
        int[] version = {NONE, NONE, NONE, NONE};
        int[] root = {NONE, NONE, NONE, NONE};
        List<int[]> changes = new ArrayList<>();
        int risk;
        int cost;
        int tick;
        int seed = 1;
        int texts;
        String law = null;
        int lawLines = NONE;
        List<int[]> log = new ArrayList<>();

        World() {
            for (int i = 0; i < 48; i++) {
                disk[i] = new Sheet();
            }
            disk[0].kind = 4;
            disk[1].kind = 5;
        }

        World copy() {
            World w = new World();
            for (int i = 0; i < 48; i++) {
                w.disk[i] = disk[i].copy();
            }
            w.version = version.clone();
            w.root = root.clone();
            w.changes = new ArrayList<>(changes);
            w.risk = risk;
            w.cost = cost;
            w.tick = tick;
            w.seed = seed;
            w.texts = texts;
            w.law = law;
            w.lawLines = lawLines;
            w.log = new ArrayList<>(log);
            return w;
        }

        int draw() {
            seed = seed * 1103515245 + 12345;
            return (seed >> 16) & 0x7fff;
        }

        int headIndex() {
            if (disk[0].kind == 5) {
                return 1;
            }
            if (disk[1].kind == 5) {
                return 0;
            }
            return disk[0].number > disk[1].number ? 0 : 1;
        }

        Sheet head() {
            return disk[headIndex()];
        }

        TreeMap<Integer, Integer> listRows() {
            TreeMap<Integer, Integer> rows = new TreeMap<>();
            for (int s : listSlips()) {
                for (int[] r : disk[s].rows) {
                    rows.put(r[0], r[1]);
                }
            }
            return rows;
        }

        List<Integer> listSlips() {
            List<Integer> slips = new ArrayList<>();
            for (int s = head().list; s != NONE; s = disk[s].next) {
                slips.add(s);
            }
            return slips;
        }

        TreeSet<Integer> usable() {
            TreeSet<Integer> set = new TreeSet<>();
            listRows().forEach((page, freed) -> {
                boolean ok = freed <= head().number;
                for (int v : version) {
                    if (v != NONE && freed > v) {
                        ok = false;
                    }
                }
                if (ok) {
                    set.add(page);
                }
            });
            return set;
        }

        Node load(int page) {
            if (page == NONE) {
                return null;
            }
            Node n = new Node(disk[page].kind == 1);
            n.page = page;
            for (int[] r : disk[page].rows) {
                if (n.leaf) {
                    n.keys.add(r[0]);
                    n.vals.add(r[1]);
                } else {
                    n.kids.add(load(r[1]));
                }
            }
            return n;
        }

        int readersOpen() {
            int c = 0;
            for (int v : version) {
                c += v != NONE ? 1 : 0;
            }
            return c;
        }
    }

    static final class Node {
        final boolean leaf;
        int page = NONE;
        boolean isNew;
        int takes = NONE;
        List<Integer> keys = new ArrayList<>();
        List<Integer> vals = new ArrayList<>();
        List<Node> kids = new ArrayList<>();

        Node(boolean leaf) {
            this.leaf = leaf;
        }

        int count() {
            return leaf ? keys.size() : kids.size();
        }

        int least() {
            return leaf ? keys.get(0) : kids.get(0).least();
        }

        void fill(TreeMap<Integer, Integer> map) {
            for (int i = 0; i < keys.size(); i++) {
                map.put(keys.get(i), vals.get(i));
            }
            for (Node k : kids) {
                k.fill(map);
            }
        }

        void pages(TreeSet<Integer> set) {
            set.add(page);
            for (Node k : kids) {
                k.pages(set);
            }
        }

        int depth() {
            return leaf ? 1 : 1 + kids.get(0).depth();
        }
    }

    static final class Full extends Exception {
        private static final long serialVersionUID = 1;
    }

    static final class Wrong extends RuntimeException {
        private static final long serialVersionUID = 1;
        final int at;

        Wrong(int at) {
            this.at = at;
        }
    }

    /** One write of a commit. */
    static final class Write {
        int page;
        Sheet then;
        int lawKind;
    }

    static final class Commit {
        final World w;
        Node root;
        TreeSet<Integer> left = new TreeSet<>();
        boolean altered;
        int number;
        int high;
        TreeSet<Integer> usable;
        TreeMap<Integer, Integer> rows;
        List<Write> writes = new ArrayList<>();

        Commit(World w, List<int[]> changes) throws Full {
            this.w = w;
            root = w.load(w.head().tree);
            for (int[] c : changes) {
                change(c[0], c[1]);
            }
            if (!altered) {
                return;
            }
            number = w.head().number + 1;
            high = w.head().high;
            usable = w.usable();
            rows = w.listRows();
            if (root != null) {
                place(root);
            }
            for (int p : left) {
                rows.put(p, number);
            }
            for (int p : w.listSlips()) {
                rows.put(p, number);
            }
            List<Integer> slips = new ArrayList<>();
            while (rows.size() > 6 * slips.size()) {
                slips.add(take());
            }
            layOut(slips);
        }

        void change(int key, int value) {
            TreeMap<Integer, Integer> map = new TreeMap<>();
            if (root != null) {
                root.fill(map);
            }
            if (value == 100) {
                if (!map.containsKey(key)) {
                    return;
                }
                altered = true;
                remove(root, key);
                if (root.count() == 0) {
                    root = null;
                }
                while (root != null && !root.leaf && root.kids.size() == 1) {
                    goes(root);
                    root = root.kids.get(0);
                }
                return;
            }
            if (map.containsKey(key) && map.get(key) == value) {
                return;
            }
            altered = true;
            if (root == null) {
                root = new Node(true);
                root.isNew = true;
                root.keys.add(key);
                root.vals.add(value);
                return;
            }
            Node beside = put(root, key, value);
            if (beside != null) {
                Node above = new Node(false);
                above.isNew = true;
                above.kids.add(root);
                above.kids.add(beside);
                root = above;
            }
        }

        void goes(Node n) {
            if (n.page != NONE) {
                left.add(n.page);
            }
        }

        void touch(Node n) {
            goes(n);
            n.isNew = true;
        }

        Node child(Node n, int key) {
            Node best = n.kids.get(0);
            for (Node k : n.kids) {
                if (k.least() <= key) {
                    best = k;
                }
            }
            return best;
        }

        Node put(Node n, int key, int value) {
            touch(n);
            if (n.leaf) {
                int at = n.keys.indexOf(key);
                if (at >= 0) {
                    n.vals.set(at, value);
                } else {
                    at = 0;
                    while (at < n.keys.size() && n.keys.get(at) < key) {
                        at++;
                    }
                    n.keys.add(at, key);
                    n.vals.add(at, value);
                }
            } else {
                Node c = child(n, key);
                Node beside = put(c, key, value);
                if (beside != null) {
                    n.kids.add(n.kids.indexOf(c) + 1, beside);
                }
            }
            if (n.count() < 5) {
                return null;
            }
            Node b = new Node(n.leaf);
            b.isNew = true;
            for (int i = 0; i < 2; i++) {
                if (n.leaf) {
                    b.keys.add(n.keys.remove(3));
                    b.vals.add(n.vals.remove(3));
                } else {
                    b.kids.add(n.kids.remove(3));
                }
            }
            return b;
        }

        void remove(Node n, int key) {
            touch(n);
            if (n.leaf) {
                int at = n.keys.indexOf(key);
                n.keys.remove(at);
                n.vals.remove(at);
                return;
            }
            Node c = child(n, key);
            remove(c, key);
            if (c.count() == 0) {
                n.kids.remove(c);
            }
        }

        int take() throws Full {
            if (!usable.isEmpty()) {
                int p = usable.pollFirst();
                rows.remove(p);
                return p;
            }
            if (high == 48) {
                throw new Full();
            }
            return high++;
        }

        void place(Node n) throws Full {
            n.takes = n.isNew ? take() : n.page;
            for (Node k : n.kids) {
                place(k);
            }
        }

        void layOut(List<Integer> slips) {
            TreeMap<Integer, Write> byPage = new TreeMap<>();
            if (root != null) {
                layOutNode(root, byPage);
            }
            List<Integer> pages = new ArrayList<>(rows.keySet());
            for (int i = 0; i < slips.size(); i++) {
                Write x = new Write();
                x.page = slips.get(i);
                x.lawKind = 2;
                x.then = new Sheet();
                x.then.kind = 3;
                x.then.next = i + 1 < slips.size() ? slips.get(i + 1) : NONE;
                for (int r = 6 * i; r < Math.min(pages.size(), 6 * i + 6); r++) {
                    x.then.rows.add(new int[] {pages.get(r), rows.get(pages.get(r))});
                }
                byPage.put(x.page, x);
            }
            writes.addAll(byPage.values());
            Write h = new Write();
            h.page = 1 - w.headIndex();
            h.lawKind = 3;
            h.then = new Sheet();
            h.then.kind = 4;
            h.then.number = number;
            h.then.tree = root == null ? NONE : root.takes;
            h.then.list = slips.isEmpty() ? NONE : slips.get(0);
            h.then.high = high;
            writes.add(h);
        }

        void layOutNode(Node n, TreeMap<Integer, Write> byPage) {
            if (n.isNew) {
                Write x = new Write();
                x.page = n.takes;
                x.lawKind = n.leaf ? 0 : 1;
                x.then = new Sheet();
                x.then.kind = n.leaf ? 1 : 2;
                for (int i = 0; i < n.count(); i++) {
                    x.then.rows.add(n.leaf ? new int[] {n.keys.get(i), n.vals.get(i)}
                            : new int[] {n.kids.get(i).least(), n.kids.get(i).takes});
                }
                byPage.put(x.page, x);
            }
            for (Node k : n.kids) {
                layOutNode(k, byPage);
            }
        }

        int[] law(Write x) {
            int wear = w.disk[x.page].wear % 100;
            int rows = x.lawKind == 3 ? 0 : x.then.rows.size();
            int[] facts = {x.page, x.lawKind, wear, rows, number % 100, w.readersOpen(), w.tick % 100};
            int[] sums = new LawReader(w.law == null ? "" : w.law, facts).read();
            return new int[] {Math.max(0, Math.min(100, w.risk + sums[0] - sums[1])), 1 + sums[2]};
        }

        /** power below 0: by draws. */
        boolean run(int power) {
            for (int k = 0; k < writes.size(); k++) {
                Write x = writes.get(k);
                int[] law = law(x);
                Sheet s = w.disk[x.page];
                boolean fails = power < 0 ? w.draw() % 100 < law[0] : k >= power;
                int wear = Math.min(9999, s.wear + 1);
                if (fails) {
                    w.disk[x.page] = new Sheet();
                    w.disk[x.page].kind = 5;
                    w.disk[x.page].wear = wear;
                    Arrays.fill(w.version, NONE);
                    Arrays.fill(w.root, NONE);
                    w.changes.clear();
                    row(1, k);
                    return true;
                }
                w.cost = Math.min(99999, w.cost + law[1]);
                w.disk[x.page] = x.then.copy();
                w.disk[x.page].wear = wear;
            }
            if (!writes.isEmpty()) {
                row(0, writes.size());
            }
            return false;
        }

        void row(int kind, int made) {
            w.log.add(0, new int[] {w.tick, number, kind, made});
            if (w.log.size() > 60) {
                w.log.remove(60);
            }
        }
    }

    /** Characters to things, on demand. */
    static class TextReader {
        final String text;
        int at;

        TextReader(String text) {
            this.text = text;
        }

        int skip() {
            while (at < text.length() && text.charAt(at) == ' ') {
                at++;
            }
            return at;
        }

        String peek() {
            int b = skip();
            int e = b;
            if (b >= text.length()) {
                return "";
            }
            if (letter(b)) {
                while (letter(e)) {
                    e++;
                }
            } else if (digit(b)) {
                while (digit(e)) {
                    e++;
                }
            } else {
                e = b + 1;
            }
            return text.substring(b, e);
        }

        boolean letter(int i) {
            return i < text.length() && text.charAt(i) >= 'a' && text.charAt(i) <= 'z';
        }

        boolean digit(int i) {
            return i < text.length() && text.charAt(i) >= '0' && text.charAt(i) <= '9';
        }

        boolean nextIsNumber() {
            skip();
            return digit(at);
        }

        boolean take(String s) {
            if (peek().equals(s)) {
                at = skip() + s.length();
                return true;
            }
            return false;
        }

        Wrong wrong() {
            return new Wrong(skip());
        }

        int number(int most) {
            if (!nextIsNumber()) {
                throw wrong();
            }
            String s = peek();
            if (s.length() > 3 || Integer.parseInt(s) > most) {
                throw wrong();
            }
            take(s);
            return Integer.parseInt(s);
        }
    }

    static final class LawReader extends TextReader {
        final int[] facts;
        int lines;
        static final List<String> NAMES =
                List.of("page", "kind", "wear", "rows", "version", "readers", "tick");

        LawReader(String text, int[] facts) {
            super(text);
            this.facts = facts;
        }

        /** Sums of risk, spare, cost lines that hold. */
        int[] read() {
            int[] sums = new int[3];
            if (peek().isEmpty()) {
                return sums;
            }
            do {
                int kind = List.of("risk", "spare", "cost").indexOf(peek());
                if (kind < 0 || lines == 12) {
                    throw wrong();
                }
                lines++;
                take(peek());
                int n = number(99);
                boolean holds = true;
                if (take("if")) {
                    holds = any(0);
                }
                sums[kind] += holds ? n : 0;
            } while (take(";"));
            if (!peek().isEmpty()) {
                throw wrong();
            }
            return sums;
        }

        boolean any(int deep) {
            boolean r = all(deep);
            while (take("or")) {
                r = all(deep) | r;
            }
            return r;
        }

        boolean all(int deep) {
            boolean r = atom(deep);
            while (take("and")) {
                r = atom(deep) & r;
            }
            return r;
        }

        boolean atom(int deep) {
            if (peek().equals("not") || peek().equals("(")) {
                if (deep == 6) {
                    throw wrong();
                }
                if (take("not")) {
                    return !atom(deep + 1);
                }
                take("(");
                boolean r = any(deep + 1);
                if (!take(")")) {
                    throw wrong();
                }
                return r;
            }
            if (take("head")) {
                return facts[1] == 3;
            }
            if (take("slip")) {
                return facts[1] == 2;
            }
            if (take("even")) {
                return facts[0] % 2 == 0;
            }
            int a = sum();
            if (take("<")) {
                return a < sum();
            }
            if (take(">")) {
                return a > sum();
            }
            throw wrong();
        }

        int sum() {
            int s = part();
            while (take("+")) {
                s += part();
            }
            return s;
        }

        int part() {
            int fact = NAMES.indexOf(peek());
            if (fact >= 0) {
                take(peek());
                return facts[fact];
            }
            return number(999);
        }
    }

    static final class WorkReader extends TextReader {
        List<int[]> changes = new ArrayList<>();
        int risk = NONE;
        int tick = NONE;
        int lines;

        WorkReader(String text) {
            super(text);
        }

        void read() {
            if (peek().isEmpty()) {
                return;
            }
            do {
                if (lines == 14 || !List.of("put", "drop", "risk", "tick").contains(peek())) {
                    throw wrong();
                }
                lines++;
                if (take("risk")) {
                    risk = number(100);
                } else if (take("tick")) {
                    tick = number(999);
                } else {
                    boolean put = peek().equals("put");
                    take(peek());
                    do {
                        if (changes.size() == 12) {
                            throw wrong();
                        }
                        int key = number(99);
                        changes.add(new int[] {key, put ? number(99) : 100});
                    } while (nextIsNumber());
                }
            } while (take(";"));
            if (!peek().isEmpty()) {
                throw wrong();
            }
        }
    }

    static final class Model {
        World w = new World();
        List<World> past = new ArrayList<>();
        World image = null;
        List<Integer> tape = new ArrayList<>();
        int fault = NONE;

        void remember() {
            past.add(w.copy());
            if (past.size() > 12) {
                past.remove(0);
            }
        }

        String useTape() {
            StringBuilder b = new StringBuilder();
            for (int x : tape) {
                b.append((char) x);
            }
            tape.clear();
            return b.toString();
        }

        static void index(boolean ok) {
            if (!ok) {
                throw new IndexOutOfBoundsException();
            }
        }

        static void argument(boolean ok) {
            if (!ok) {
                throw new IllegalArgumentException();
            }
        }

        static void element(boolean ok) {
            if (!ok) {
                throw new NoSuchElementException();
            }
        }

        static void state(boolean ok) {
            if (!ok) {
                throw new IllegalStateException();
            }
        }

        static boolean in(int x, int a, int b) {
            return x >= a && x <= b;
        }

        int feed(int... n) {
            if (tape.size() + 20 > 400) {
                return NONE;
            }
            for (int x : n) {
                tape.add(x >> 24 & 255);
                tape.add(x >> 16 & 255);
                tape.add(x >> 8 & 255);
                tape.add(x & 255);
            }
            return tape.size();
        }

        boolean end(int n) {
            if (n < 0 || n > tape.size()) {
                return false;
            }
            while (tape.size() > n) {
                tape.remove(tape.size() - 1);
            }
            return true;
        }

        int work() {
            WorkReader r = new WorkReader(useTape());
            fault = NONE;
            try {
                r.read();
            } catch (Wrong x) {
                fault = x.at;
                throw new IllegalArgumentException();
            }
            if (w.texts == 12) {
                throw new UnsupportedOperationException();
            }
            Commit c = commitOf(r.changes);
            state(c != null);
            w.risk = r.risk == NONE ? w.risk : r.risk;
            w.tick = r.tick == NONE ? w.tick : r.tick;
            c.run(1000);
            past.clear();
            return ++w.texts;
        }

        int law() {
            String text = useTape();
            fault = NONE;
            LawReader r = new LawReader(text, new int[7]);
            try {
                r.read();
            } catch (Wrong x) {
                fault = x.at;
                throw new IllegalArgumentException();
            }
            w.law = text;
            w.lawLines = r.lines;
            past.clear();
            return r.lines;
        }

        Commit commitOf(List<int[]> changes) {
            try {
                return new Commit(w, changes);
            } catch (Full f) {
                return null;
            }
        }

        int page(int p, int what) {
            index(in(p, 0, 47));
            Sheet s = w.disk[p];
            switch (what) {
                case 0: return s.kind;
                case 1: return s.rows.size();
                case 2: return s.wear;
                case 3: return w.listRows().getOrDefault(p, NONE);
                case 4: {
                    int bits = 0;
                    for (int v = 0; v < 5; v++) {
                        if (isOpen(v) && pagesOf(v).contains(p)) {
                            bits += 1 << v;
                        }
                    }
                    return bits;
                }
                case 5: return w.usable().contains(p) ? 1 : 0;
                case 6: {
                    int all = 0;
                    for (Sheet x : w.disk) {
                        all += x.wear;
                    }
                    return all == 0 ? 0 : s.wear * 100 / all;
                }
                case 7: return s.kind == 3 ? s.next : NONE;
                default: throw new NoSuchElementException();
            }
        }

        int entry(int p, int k, boolean more) {
            index(in(p, 0, 47));
            List<int[]> rows = w.disk[p].rows;
            return k < 0 || k >= rows.size() ? NONE : rows.get(k)[more ? 1 : 0];
        }

        int head(int h, int what) {
            index(in(h, 0, 1));
            element(in(what, 0, 3));
            Sheet s = w.disk[h];
            if (s.kind == 5) {
                return NONE;
            }
            return new int[] {s.number, s.tree, s.list, s.high}[what];
        }

        int reader(int r) {
            index(in(r, 0, 3));
            return w.version[r];
        }

        int change(int k, int what) {
            element(in(what, 0, 1));
            return k < 0 || k >= w.changes.size() ? NONE : w.changes.get(k)[what];
        }

        int tickOn(int n) {
            int fails = 0;
            for (int i = 0; i < n; i++) {
                int key = w.draw() % 100;
                int value = w.draw() % 3 == 2 ? 100 : w.draw() % 100;
                Commit c = commitOf(List.of(new int[] {key, value}));
                if (c != null && c.run(-1)) {
                    fails++;
                }
                w.tick = Math.min(9999, w.tick + 1);
            }
            return fails;
        }

        int ticks(int n) {
            argument(in(n, 1, 60));
            remember();
            return tickOn(n);
        }

        int put(int key, int value) {
            index(in(key, 0, 99));
            argument(in(value, 0, 100));
            state(w.changes.size() < 12);
            remember();
            w.changes.add(new int[] {key, value});
            return w.changes.size();
        }

        int forget() {
            remember();
            int n = w.changes.size();
            w.changes.clear();
            return n;
        }

        int commit() {
            Commit c = commitOf(w.changes);
            state(c != null);
            remember();
            c.run(1000);
            w.changes.clear();
            return c.writes.size();
        }

        boolean cut(int n) {
            argument(in(n, 0, 99));
            Commit c = commitOf(w.changes);
            state(c != null);
            remember();
            boolean f = c.run(n);
            w.changes.clear();
            return f;
        }

        boolean store() {
            Commit c = commitOf(w.changes);
            state(c != null);
            remember();
            boolean f = c.run(-1);
            w.changes.clear();
            return f;
        }

        int open(int r) {
            index(in(r, 0, 3));
            state(w.version[r] == NONE);
            remember();
            w.root[r] = w.head().tree;
            return w.version[r] = w.head().number;
        }

        int close(int r) {
            index(in(r, 0, 3));
            state(w.version[r] != NONE);
            remember();
            int v = w.version[r];
            w.version[r] = NONE;
            w.root[r] = NONE;
            return v;
        }

        int risk(int n) {
            argument(in(n, 0, 100));
            remember();
            int b = w.risk;
            w.risk = n;
            return b;
        }

        boolean isOpen(int v) {
            return v == 4 || w.version[v] != NONE;
        }

        Node nodeOf(int v) {
            return w.load(v == 4 ? w.head().tree : w.root[v]);
        }

        TreeMap<Integer, Integer> mapOf(int v) {
            TreeMap<Integer, Integer> m = new TreeMap<>();
            Node n = nodeOf(v);
            if (n != null) {
                n.fill(m);
            }
            return m;
        }

        TreeSet<Integer> pagesOf(int v) {
            TreeSet<Integer> s = new TreeSet<>();
            Node n = nodeOf(v);
            if (n != null) {
                n.pages(s);
            }
            return s;
        }

        int value(int v, int key) {
            index(in(v, 0, 4) && in(key, 0, 99));
            state(isOpen(v));
            return mapOf(v).getOrDefault(key, NONE);
        }

        int tree(int v, int what) {
            index(in(v, 0, 4));
            element(in(what, 0, 3));
            state(isOpen(v));
            Node n = nodeOf(v);
            switch (what) {
                case 0: return mapOf(v).size();
                case 1: return n == null ? 0 : n.depth();
                case 2: return pagesOf(v).size();
                default: return n == null ? NONE : n.page;
            }
        }

        int rank(int v, int k) {
            index(in(v, 0, 4));
            state(isOpen(v));
            List<Integer> keys = new ArrayList<>(mapOf(v).keySet());
            return k < 0 || k >= keys.size() ? NONE : keys.get(k);
        }

        int sum(int v, int a, int b) {
            index(in(v, 0, 4) && in(a, 0, 99) && in(b, 0, 99));
            argument(a <= b);
            state(isOpen(v));
            int s = 0;
            for (int x : mapOf(v).subMap(a, true, b, true).values()) {
                s += x;
            }
            return s;
        }

        int common(int v, int o) {
            index(in(v, 0, 4) && in(o, 0, 4));
            state(isOpen(v) && isOpen(o));
            TreeSet<Integer> s = pagesOf(v);
            s.retainAll(pagesOf(o));
            return s.size();
        }

        int unlike(int v, int o) {
            index(in(v, 0, 4) && in(o, 0, 4));
            state(isOpen(v) && isOpen(o));
            int c = 0;
            for (int k = 0; k < 100; k++) {
                c += mapOf(v).getOrDefault(k, NONE).equals(mapOf(o).getOrDefault(k, NONE)) ? 0 : 1;
            }
            return c;
        }

        int would(int k) {
            Commit c = commitOf(w.changes);
            if (c == null) {
                return NONE;
            }
            if (k == NONE) {
                return c.writes.size();
            }
            return k < 0 || k >= c.writes.size() ? NONE : c.writes.get(k).page;
        }

        int comes() {
            Commit c = commitOf(w.changes);
            if (c == null) {
                return 0;
            }
            int odds = 10000;
            for (Write x : c.writes) {
                odds = odds * (100 - c.law(x)[0]) / 100;
            }
            return odds;
        }

        int many(int what) {
            element(in(what, 0, 9));
            int c = 0;
            if (what <= 5) {
                for (Sheet s : w.disk) {
                    c += s.kind == what ? 1 : 0;
                }
                return c;
            }
            if (what == 6) {
                return w.listRows().size();
            }
            if (what == 7) {
                return w.listRows().size() - w.usable().size();
            }
            if (what == 8) {
                for (int p = 2; p < w.head().high; p++) {
                    c += pagesOf(4).contains(p) || w.listSlips().contains(p) || w.listRows().containsKey(p) ? 0 : 1;
                }
                return c;
            }
            TreeSet<Integer> s = new TreeSet<>();
            for (int r = 0; r < 4; r++) {
                s.addAll(pagesOf(r));
            }
            s.removeAll(pagesOf(4));
            return s.size();
        }

        int precious(boolean loss) {
            int best = NONE;
            int most = NONE;
            for (int p : pagesOf(4)) {
                TreeMap<Integer, Integer> m = new TreeMap<>();
                w.load(p).fill(m);
                if (p != w.head().tree && m.size() > most) {
                    best = p;
                    most = m.size();
                }
            }
            return loss ? most : best;
        }

        int[] wrongs(String rows) {
            argument(rows.length() <= 40 && rows.length() % 2 == 0);
            for (int i = 0; i < rows.length(); i++) {
                argument(rows.charAt(i) <= (i % 2 == 0 ? 99 : 100));
            }
            int[] wrong = new int[5];
            for (int v = 0; v < 5; v++) {
                for (int i = 0; i < rows.length(); i += 2) {
                    int has = mapOf(v).getOrDefault((int) rows.charAt(i), 100);
                    wrong[v] += has == rows.charAt(i + 1) ? 0 : 1;
                }
                if (!isOpen(v)) {
                    wrong[v] = 99;
                }
            }
            return wrong;
        }

        int seen() {
            int[] wrong = wrongs(useTape());
            int bits = 0;
            for (int v = 0; v < 5; v++) {
                bits += wrong[v] <= 1 ? 1 << v : 0;
            }
            return bits;
        }

        int likely() {
            int[] wrong = wrongs(useTape());
            for (int n = 0; n < 2; n++) {
                for (int v = 0; v < 5; v++) {
                    if (wrong[v] == n) {
                        return v;
                    }
                }
            }
            return NONE;
        }

        int look() {
            int[] wrong = wrongs(useTape());
            List<TreeMap<Integer, Integer>> fits = new ArrayList<>();
            for (int v = 0; v < 5; v++) {
                if (wrong[v] <= 1) {
                    fits.add(mapOf(v));
                }
            }
            if (fits.size() < 2) {
                return NONE;
            }
            int best = NONE;
            int least = 99;
            for (int k = 0; k < 100; k++) {
                TreeMap<Integer, Integer> parts = new TreeMap<>();
                int greatest = 0;
                for (TreeMap<Integer, Integer> f : fits) {
                    greatest = Math.max(greatest, parts.merge(f.getOrDefault(k, NONE), 1, Integer::sum));
                }
                if (greatest < least) {
                    least = greatest;
                    best = k;
                }
            }
            return best;
        }

        int bestTotal;
        int[] bestWay;

        void pairUp(int r, int[] way, int total) {
            if (r == 4) {
                if (total > bestTotal) {
                    bestTotal = total;
                    bestWay = way.clone();
                }
                return;
            }
            if (way[r] != NONE) {
                pairUp(r + 1, way, total);
                return;
            }
            pairUp(r + 1, way, total);
            for (int o = r + 1; o < 4; o++) {
                if (way[o] == NONE && isOpen(r) && isOpen(o) && w.version[r] != w.version[o]) {
                    way[r] = o;
                    way[o] = r;
                    pairUp(r + 1, way, total + common(r, o));
                    way[r] = NONE;
                    way[o] = NONE;
                }
            }
        }

        int pairs(int r) {
            index(in(r, -1, 3));
            bestTotal = -1;
            pairUp(0, new int[] {NONE, NONE, NONE, NONE}, 0);
            return r == NONE ? bestTotal : bestWay[r];
        }

        int share(int r, int n) {
            index(in(r, 0, 3));
            argument(in(n, 0, 99));
            int[] has = new int[4];
            for (int i = 0; i < n; i++) {
                int best = 0;
                for (int x = 1; x < 4; x++) {
                    if (pagesOf(x).size() / (has[x] + 1) > pagesOf(best).size() / (has[best] + 1)) {
                        best = x;
                    }
                }
                has[best]++;
            }
            return has[r];
        }

        int rests() {
            int c = w.changes.size();
            int r = w.readersOpen();
            int[] writer = {-c, 2 * c, 0, -1};
            int[] thief = {3, 0, -r, 1};
            int bits = 0;
            for (int i = 0; i < 4; i++) {
                if (writer[i ^ 2] <= writer[i] && thief[i ^ 1] <= thief[i]) {
                    bits |= 1 << i;
                }
            }
            return bits;
        }

        int most(int what) {
            element(in(what, 0, 2));
            int best = NONE;
            int value = NONE;
            if (what == 0) {
                for (int p = 0; p < 48; p++) {
                    if (w.disk[p].wear > value) {
                        value = w.disk[p].wear;
                        best = p;
                    }
                }
            } else if (what == 1) {
                for (int p : pagesOf(4)) {
                    if (w.disk[p].kind == 1 && w.disk[p].rows.size() > value) {
                        value = w.disk[p].rows.size();
                        best = p;
                    }
                }
            } else {
                for (int r = 3; r >= 0; r--) {
                    if (isOpen(r) && (best == NONE || w.version[r] <= value)) {
                        value = w.version[r];
                        best = r;
                    }
                }
            }
            return best;
        }

        int trial(int n, boolean keys) {
            argument(in(n, 0, 60));
            World real = w;
            w = real.copy();
            tickOn(n);
            int a = keys ? mapOf(4).size() : w.head().number;
            w = real;
            return a;
        }

        int span(int n, boolean most) {
            argument(in(n, 0, 60));
            World real = w;
            TreeSet<Integer> counts = new TreeSet<>();
            for (int s = 1; s <= 6; s++) {
                w = real.copy();
                w.seed = s;
                tickOn(n);
                counts.add(mapOf(4).size());
            }
            w = real;
            return most ? counts.last() : counts.first();
        }

        int led(int kind, boolean tick) {
            element(in(kind, 0, 1));
            int c = 0;
            int t = NONE;
            for (int[] r : w.log) {
                if (r[2] == kind) {
                    t = c++ == 0 ? r[0] : t;
                }
            }
            return tick ? t : c;
        }

        int log(int ago, int what) {
            element(in(what, 0, 3));
            return ago < 0 || ago >= w.log.size() ? NONE : w.log.get(ago)[what];
        }

        int seed(int n) {
            int b = w.seed;
            w.seed = n;
            return b;
        }

        boolean undo() {
            if (past.isEmpty()) {
                return false;
            }
            w = past.remove(past.size() - 1);
            return true;
        }

        boolean back() {
            if (image == null) {
                return false;
            }
            w = image.copy();
            past.clear();
            return true;
        }

        int count(int what) {
            int[] all = {w.head().number, w.changes.size(), w.texts, w.lawLines, w.risk, w.cost, w.tick,
                w.head().high, w.readersOpen(), w.headIndex(), w.log.size(), past.size()};
            return what < 0 || what >= all.length ? NONE : all[what];
        }
    }

    // ------------------------------------------------------------------ both side by side

    static int wrong = 0;
    static long calls = 0;

    /** One call by its number: the answer, or that an exception was thrown, as a text. */
    static String ask(Object who, int call, int[] a) {
        try {
            return Long.toString(who instanceof Model ? askModel((Model) who, call, a)
                    : askReal((CopiedPages) who, call, a));
        } catch (IndexOutOfBoundsException | IllegalArgumentException | IllegalStateException
                | NoSuchElementException | UnsupportedOperationException e) {
            return e.getClass().getName();
        }
    }

    static long bit(boolean b) {
        return b ? 1 : 0;
    }

    static long askReal(CopiedPages x, int call, int[] a) {
        switch (call) {
            case 0: return x.feed(a[0], a[1], a[2], a[3], a[4]);
            case 1: return bit(x.end(a[0]));
            case 2: return x.work();
            case 3: return x.law();
            case 4: return x.fault();
            case 5: return x.page(a[0], a[1]);
            case 6: return x.entry(a[0], a[1], a[2] > 0);
            case 7: return x.head(a[0], a[1]);
            case 8: return x.reader(a[0]);
            case 9: return x.change(a[0], a[1]);
            case 10: return x.ticks(a[0]);
            case 11: return x.put(a[0], a[1]);
            case 12: return x.forget();
            case 13: return x.commit();
            case 14: return bit(x.cut(a[0]));
            case 15: return bit(x.store());
            case 16: return x.open(a[0]);
            case 17: return x.close(a[0]);
            case 18: return x.risk(a[0]);
            case 19: return x.value(a[0], a[1]);
            case 20: return x.tree(a[0], a[1]);
            case 21: return x.rank(a[0], a[1]);
            case 22: return x.sum(a[0], a[1], a[2]);
            case 23: return x.common(a[0], a[1]);
            case 24: return x.unlike(a[0], a[1]);
            case 25: return x.would(a[0]);
            case 26: return x.comes();
            case 27: return x.many(a[0]);
            case 28: return x.precious(a[0] > 0);
            case 29: return x.seen();
            case 30: return x.likely();
            case 31: return x.look();
            case 32: return x.pairs(a[0]);
            case 33: return x.share(a[0], a[1]);
            case 34: return x.rests();
            case 35: return x.most(a[0]);
            case 36: return x.trial(a[0], a[1] > 0);
            case 37: return x.span(a[0], a[1] > 0);
            case 38: return x.led(a[0], a[1] > 0);
            case 39: return x.log(a[0], a[1]);
            case 40: return x.seed(a[0]);
            case 41: return bit(x.undo());
            case 42: x.image(); return 0;
            case 43: return bit(x.back());
            default: return x.count(a[0]);
        }
    }

    static long askModel(Model x, int call, int[] a) {
        switch (call) {
            case 0: return x.feed(a[0], a[1], a[2], a[3], a[4]);
            case 1: return bit(x.end(a[0]));
            case 2: return x.work();
            case 3: return x.law();
            case 4: return x.fault;
            case 5: return x.page(a[0], a[1]);
            case 6: return x.entry(a[0], a[1], a[2] > 0);
            case 7: return x.head(a[0], a[1]);
            case 8: return x.reader(a[0]);
            case 9: return x.change(a[0], a[1]);
            case 10: return x.ticks(a[0]);
            case 11: return x.put(a[0], a[1]);
            case 12: return x.forget();
            case 13: return x.commit();
            case 14: return bit(x.cut(a[0]));
            case 15: return bit(x.store());
            case 16: return x.open(a[0]);
            case 17: return x.close(a[0]);
            case 18: return x.risk(a[0]);
            case 19: return x.value(a[0], a[1]);
            case 20: return x.tree(a[0], a[1]);
            case 21: return x.rank(a[0], a[1]);
            case 22: return x.sum(a[0], a[1], a[2]);
            case 23: return x.common(a[0], a[1]);
            case 24: return x.unlike(a[0], a[1]);
            case 25: return x.would(a[0]);
            case 26: return x.comes();
            case 27: return x.many(a[0]);
            case 28: return x.precious(a[0] > 0);
            case 29: return x.seen();
            case 30: return x.likely();
            case 31: return x.look();
            case 32: return x.pairs(a[0]);
            case 33: return x.share(a[0], a[1]);
            case 34: return x.rests();
            case 35: return x.most(a[0]);
            case 36: return x.trial(a[0], a[1] > 0);
            case 37: return x.span(a[0], a[1] > 0);
            case 38: return x.led(a[0], a[1] > 0);
            case 39: return x.log(a[0], a[1]);
            case 40: return x.seed(a[0]);
            case 41: return bit(x.undo());
            case 42: x.image = x.w.copy(); return 0;
            case 43: return bit(x.back());
            default: return x.count(a[0]);
        }
    }

    static final class Run {
        final int name;
        final CopiedPages real = new CopiedPages();
        final Model model = new Model();
        final Random random;
        final List<String> told = new ArrayList<>();
        /** Runs are of several sorts: few keys or many, much removed or little, changes dropped when it is full. */
        final int keys;
        final int removed;
        final boolean drops;

        Run(int name) {
            this.name = name;
            random = new Random(name);
            keys = new int[] {8, 25, 50, 100}[name % 4];
            removed = 2 + name / 4 % 3;
            drops = name % 8 < 6;
        }

        boolean both(int call, int... given) {
            int[] a = Arrays.copyOf(given, 5);
            String want = ask(model, call, a);
            String got = ask(real, call, a);
            told.add(call + Arrays.toString(given) + " = " + want);
            calls++;
            if (want.equals(got)) {
                return true;
            }
            wrong++;
            System.out.println("run " + name + ": call " + call + " " + Arrays.toString(given)
                    + " answered " + got + ", the model " + want);
            return false;
        }

        boolean type(byte[] bytes) {
            boolean same = true;
            for (int i = 0; i < bytes.length; i += 20) {
                int[] n = new int[5];
                for (int k = 0; k < 20; k++) {
                    int b = i + k < bytes.length ? bytes[i + k] & 255 : 0;
                    n[k / 4] |= b << (24 - 8 * (k % 4));
                }
                same &= both(0, n);
            }
            return same & both(1, bytes.length);
        }

        int pick(int n) {
            return random.nextInt(n);
        }

        /** Mostly within its bounds, at times beside them or far away. */
        int near(int least, int most) {
            int p = pick(40);
            if (p == 0) {
                return least - 1;
            }
            if (p == 1) {
                return most + 1;
            }
            if (p == 2) {
                return random.nextInt();
            }
            return least + pick(most - least + 1);
        }

        String workText() {
            StringBuilder b = new StringBuilder();
            int lines = pick(12) == 0 ? 12 + pick(5) : pick(4);
            for (int i = 0; i < lines; i++) {
                b.append(i > 0 ? pick(2) == 0 ? ";" : " ; " : "");
                int p = pick(8);
                if (p < 4) {
                    b.append("put");
                    for (int k = 1 + pick(lines > 4 ? 1 : 5); k > 0; k--) {
                        b.append(' ').append(pick(keys)).append(' ').append(pick(100));
                    }
                } else if (p < 6) {
                    b.append("drop");
                    for (int k = 1 + pick(lines > 4 ? 1 : 5); k > 0; k--) {
                        b.append(' ').append(pick(keys));
                    }
                } else if (p == 6) {
                    b.append("risk ").append(pick(12) == 0 ? pick(130) : pick(3));
                } else {
                    b.append("tick ").append(pick(1000));
                }
            }
            return b.toString();
        }

        String part() {
            return pick(3) == 0 ? Integer.toString(pick(60)) : LawReader.NAMES.get(pick(7));
        }

        String sum() {
            StringBuilder b = new StringBuilder(part());
            while (pick(3) == 0) {
                b.append(pick(2) == 0 ? "+" : " + ").append(part());
            }
            return b.toString();
        }

        String condition(int deep) {
            StringBuilder b = new StringBuilder();
            do {
                b.append(b.length() > 0 ? pick(2) == 0 ? " or " : " and " : "");
                int p = pick(9);
                if (p < 2 && deep < 7) {
                    b.append("(").append(condition(deep + 1)).append(")");
                } else if (p < 4 && deep < 7) {
                    b.append("not ").append(pick(2) == 0 ? "even" : "(" + condition(deep + 2) + ")");
                } else if (p < 6) {
                    b.append(List.of("head", "slip", "even").get(pick(3)));
                } else {
                    b.append(sum()).append(pick(2) == 0 ? "<" : " > ").append(sum());
                }
            } while (pick(3) == 0);
            return b.toString();
        }

        String lawText() {
            StringBuilder b = new StringBuilder();
            int lines = pick(15) == 0 ? 11 + pick(3) : pick(5);
            for (int i = 0; i < lines; i++) {
                b.append(i > 0 ? pick(2) == 0 ? ";" : " ; " : "");
                b.append(List.of("risk ", "spare ", "cost ").get(pick(3)));
                b.append(pick(40) == 0 ? pick(120) : pick(20));
                if (pick(4) > 0) {
                    b.append(" if ").append(lines > 5 ? "even" : condition(0));
                }
            }
            return b.toString();
        }

        byte[] spoilt(String text) {
            StringBuilder b = new StringBuilder(text.length() > 400 ? text.substring(0, 400) : text);
            String signs = "; ()<>+0159azputnotAif" + (char) 200;
            for (int n = pick(3) == 0 ? 1 + pick(2) : 0; n > 0 && b.length() > 0; n--) {
                int at = pick(b.length());
                int p = pick(4);
                if (p == 0) {
                    b.deleteCharAt(at);
                } else if (p == 1) {
                    b.setCharAt(at, signs.charAt(pick(signs.length())));
                } else if (p == 2 && b.length() < 400) {
                    b.insert(at, signs.charAt(pick(signs.length())));
                } else {
                    b.setLength(at);
                }
            }
            byte[] bytes = new byte[b.length()];
            for (int i = 0; i < bytes.length; i++) {
                bytes[i] = (byte) b.charAt(i);
            }
            return bytes;
        }

        byte[] seenRows() {
            int view = pick(5);
            TreeMap<Integer, Integer> map = model.mapOf(view);
            byte[] rows = new byte[pick(30) == 0 ? pick(60) : 2 * pick(7)];
            for (int i = 0; i + 1 < rows.length; i += 2) {
                boolean there = pick(3) > 0 && !map.isEmpty();
                int key = there ? new ArrayList<>(map.keySet()).get(pick(map.size())) : pick(100);
                rows[i] = (byte) key;
                rows[i + 1] = (byte) (int) map.getOrDefault(key, 100);
                if (pick(6) == 0) {
                    rows[i + 1] = (byte) pick(pick(10) == 0 ? 256 : 101);
                }
                if (pick(100) == 0) {
                    rows[i] = (byte) pick(256);
                }
            }
            return rows;
        }

        boolean act() {
            int p = pick(30);
            if (p < 10) {
                boolean same = true;
                for (int n = 1 + pick(8); n > 0; n--) {
                    same &= both(11, near(0, keys - 1), pick(removed) == 0 ? 100 : near(0, 100));
                }
                return same;
            }
            if (p < 13) {
                boolean same = both(13);
                return drops ? same & both(12) : same;
            }
            if (p < 15) {
                return both(14, pick(3) > 0 ? pick(12) : near(0, 99));
            }
            if (p < 17) {
                return both(15);
            }
            if (p < 19) {
                return both(10, pick(3) > 0 ? 1 + pick(4) : near(1, 60));
            }
            if (p < 21) {
                return both(16, near(0, 3));
            }
            if (p < 23) {
                return both(17, near(0, 3));
            }
            if (p < 24) {
                return both(18, pick(2) == 0 ? pick(4) : near(0, 100)) & (pick(2) == 0 || both(18, pick(3)));
            }
            if (p < 25) {
                return pick(4) == 0 ? both(12) : both(40, random.nextInt());
            }
            if (p < 27) {
                return type(spoilt(workText())) & both(2) & both(4);
            }
            if (p < 28) {
                return type(spoilt(lawText())) & both(3) & both(4);
            }
            if (p < 29) {
                return both(41) & (pick(2) == 0 || both(41));
            }
            return pick(3) > 0 ? both(42) : pick(3) > 0 || both(43);
        }

        boolean watch() {
            switch (pick(28)) {
                case 0: return both(5, near(0, 47), near(0, 7));
                case 1: return both(6, near(0, 47), near(0, 5), pick(2));
                case 2: return both(7, near(0, 1), near(0, 3));
                case 3: return both(8, near(0, 3));
                case 4: return both(9, near(0, 11), near(0, 1));
                case 5: return both(19, near(0, 4), near(0, 99));
                case 6: return both(20, near(0, 4), near(0, 3));
                case 7: return both(21, near(0, 4), near(0, 40));
                case 8: return both(22, near(0, 4), near(0, 60), near(40, 99));
                case 9: return both(23, near(0, 4), near(0, 4));
                case 10: return both(24, near(0, 4), near(0, 4));
                case 11: return both(25, near(-1, 12));
                case 12: return both(26);
                case 13: return both(27, near(0, 9));
                case 14: return both(28, pick(2));
                case 15: return type(seenRows()) & both(29) & both(4);
                case 16: return type(seenRows()) & both(30);
                case 17: return type(seenRows()) & both(31);
                case 18: return both(32, near(-1, 3));
                case 19: return both(33, near(0, 3), near(0, 99));
                case 20: return both(34);
                case 21: return both(35, near(0, 2));
                case 22: return both(36, near(0, 60), pick(2));
                case 23: return pick(4) > 0 || both(37, near(0, 60), pick(2));
                case 24: return both(38, near(0, 1), pick(2));
                case 25: return both(39, near(0, 59), near(0, 3));
                case 26: return both(1, near(0, 400)) & (pick(3) > 0 || both(0, 1, 2, 3, 4, 5));
                default: return both(44, near(0, 11));
            }
        }

        /** Every page and number that can be asked. */
        boolean all() {
            boolean same = true;
            for (int p = 0; p < 48 && same; p++) {
                for (int what = 0; what < 8; what++) {
                    same &= both(5, p, what);
                }
                for (int k = 0; k < 6; k++) {
                    same &= both(6, p, k, 0) & both(6, p, k, 1);
                }
            }
            for (int what = 0; what < 12; what++) {
                same &= both(44, what);
            }
            for (int what = 0; what < 10; what++) {
                same &= both(27, what);
            }
            for (int k = -1; k < 50; k++) {
                same &= both(25, k);
            }
            for (int r = -1; r < 4; r++) {
                same &= both(32, r);
            }
            return same;
        }

        void go() {
            boolean same = true;
            for (int i = 0; i < 230 && same; i++) {
                same = act() && watch();
                if (same && i % 46 == 45) {
                    same = all();
                }
            }
            if (!same) {
                for (int i = Math.max(0, told.size() - 12); i < told.size(); i++) {
                    System.out.println("    " + told.get(i));
                }
            }
        }
    }

    public static void main(String[] args) {
        int runs = args.length > 0 ? Integer.parseInt(args[0]) : 150;
        int from = args.length > 1 ? Integer.parseInt(args[1]) : 1;
        for (int name = from; name < from + runs && wrong < 20; name++) {
            new Run(name).go();
        }
        System.out.println(calls + " calls beside the model, " + wrong + " unlike");
        if (wrong > 0) {
            System.exit(1);
        }
    }
}
