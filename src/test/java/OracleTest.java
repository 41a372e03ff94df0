import java.math.BigInteger;
import java.util.ArrayList;
import java.util.Arrays;
import java.util.HashMap;
import java.util.LinkedHashMap;
import java.util.List;
import java.util.Map;
import java.util.NoSuchElementException;
import java.util.Random;
import java.util.Set;
import java.util.TreeMap;
import java.util.regex.Matcher;
import java.util.regex.Pattern;

/**
 * Long runs of drawn calls, each answer against a second program written from the document alone,
 * slowly and with other means (maps, big numbers, exceptions), and against what the document says must hold of the forms.
 */
public final class OracleTest {
    private static final long NOTHING = Long.MIN_VALUE;
    private static int wrong = 0;

    // ---- the second program

    private static final class Fault extends Exception {
        private static final long serialVersionUID = 1L;
        final int number;
        final int place;

        Fault(int number, int place) {
            this.number = number;
            this.place = place;
        }
    }

    private record Token(String text, int place) { }

    /** A VARIABLE's name, or a number as text. */
    private record Operand(String name, int number) { }

    private static final class Line {
        String name;
        boolean input;
        int from;
        int to;
        char by;
        int grid;
        List<Operand> operands = new ArrayList<>();

        Line copy() {
            Line c = new Line();
            c.name = name;
            c.input = input;
            c.from = from;
            c.to = to;
            c.by = by;
            c.grid = grid;
            c.operands = operands;
            return c;
        }
    }

    private static final class Affine {
        BigInteger middle = BigInteger.ZERO;
        final TreeMap<Integer, BigInteger> noises = new TreeMap<>();

        Affine(long n) {
            middle = BigInteger.valueOf(n);
        }

        BigInteger by(int noise) {
            return noises.getOrDefault(noise, BigInteger.ZERO);
        }

        void put(int noise, BigInteger n) {
            if (n.signum() == 0) {
                noises.remove(noise);
            } else {
                noises.put(noise, n);
            }
        }

        Affine plus(Affine o, long times) {
            BigInteger t = BigInteger.valueOf(times);
            Affine r = new Affine(0);
            r.middle = middle.add(o.middle.multiply(t));
            r.noises.putAll(noises);
            o.noises.forEach((k, n) -> r.put(k, r.by(k).add(n.multiply(t))));
            return r;
        }

        BigInteger radius() {
            return noises.values().stream().map(BigInteger::abs).reduce(BigInteger.ZERO, BigInteger::add);
        }

        BigInteger low() {
            return middle.subtract(radius());
        }

        BigInteger high() {
            return middle.add(radius());
        }
    }

    private static final class Sheet {
        final Map<String, Affine> value = new HashMap<>();
        final Map<String, Affine> drift = new HashMap<>();
        final Map<String, Integer> may = new HashMap<>();
        final List<String> bringer = new ArrayList<>();
        final List<Integer> how = new ArrayList<>();
        final LinkedHashMap<String, Line> lines;

        Sheet(LinkedHashMap<String, Line> lines) {
            this.lines = lines;
            for (Line l : lines.values()) {
                if (l.input) {
                    Affine a = new Affine((l.from + l.to) / 2);
                    a.put(fresh(l.name, 0), BigInteger.valueOf((l.to - l.from) / 2));
                    value.put(l.name, a);
                    drift.put(l.name, new Affine(0));
                }
            }
            for (Line l : lines.values()) {
                if (!l.input) {
                    step(l);
                }
            }
        }

        int fresh(String name, int by) {
            bringer.add(name);
            how.add(by);
            return bringer.size() - 1;
        }

        Affine v(Operand o) {
            return o.name == null ? new Affine(o.number) : value.get(o.name);
        }

        Affine d(Operand o) {
            return o.name == null ? new Affine(0) : drift.get(o.name);
        }

        Affine p(Affine a, Affine b, String name) {
            Affine r = new Affine(0);
            r.middle = a.middle.multiply(b.middle);
            for (int i = 0; i < bringer.size(); i++) {
                r.put(i, a.middle.multiply(b.by(i)).add(b.middle.multiply(a.by(i))));
            }
            BigInteger last = a.radius().multiply(b.radius());
            if (last.signum() != 0) {
                r.put(fresh(name, 1), last);
            }
            return r;
        }

        Affine j(List<Affine> some, String name) {
            if (some.size() == 1) {
                return some.get(0);
            }
            BigInteger low = some.stream().map(Affine::low).min(BigInteger::compareTo).get();
            BigInteger high = some.stream().map(Affine::high).max(BigInteger::compareTo).get();
            Affine r = new Affine(0);
            r.middle = BigInteger.valueOf(Math.floorDiv(low.add(high).longValueExact(), 2L));
            BigInteger rest = high.subtract(r.middle);
            if (rest.signum() != 0) {
                r.put(fresh(name, 2), rest);
            }
            return r;
        }

        static int fineOfNumber(int n) {
            return n == 0 ? 8 : Math.min(8, Integer.numberOfTrailingZeros(n));
        }

        int fine(Operand o) {
            return o.name == null ? fineOfNumber(o.number) : fine(lines.get(o.name));
        }

        int fineBefore(Line l) {
            List<Operand> o = l.operands;
            if (l.by == '?') {
                return Math.min(fine(o.get(2)), fine(o.get(3)));
            }
            return l.by == '*' ? Math.min(8, fine(o.get(0)) + fine(o.get(1))) : Math.min(fine(o.get(0)), fine(o.get(1)));
        }

        int fine(Line l) {
            return l.input ? 0 : Math.max(l.grid, fineBefore(l));
        }

        void step(Line l) {
            List<Operand> o = l.operands;
            Affine value;
            Affine drift;
            if (l.by == '+' || l.by == '-') {
                value = v(o.get(0)).plus(v(o.get(1)), l.by == '+' ? 1 : -1);
                drift = d(o.get(0)).plus(d(o.get(1)), l.by == '+' ? 1 : -1);
            } else if (l.by == '*') {
                value = p(v(o.get(0)), v(o.get(1)), l.name);
                Affine one = p(v(o.get(0)), d(o.get(1)), l.name);
                Affine two = p(d(o.get(0)), v(o.get(1)), l.name);
                Affine three = p(d(o.get(0)), d(o.get(1)), l.name);
                drift = one.plus(two, 1).plus(three, 1);
            } else {
                Affine t = v(o.get(0)).plus(v(o.get(1)), -1);
                Affine u = d(o.get(0)).plus(d(o.get(1)), -1);
                long low = t.low().longValueExact();
                long high = t.high().longValueExact();
                long less = u.low().longValueExact();
                long more = u.high().longValueExact();
                boolean et = low < 0;
                boolean ee = high >= 0;
                boolean ct = low + less < 0;
                boolean ce = high + more >= 0;
                boolean up = meet(low, high, -more, -1);
                boolean down = meet(low, high, 0, -less - 1);
                may.put(l.name, (et ? 1 : 0) + (ee ? 2 : 0) + (ct ? 4 : 0) + (ce ? 8 : 0) + (up ? 16 : 0) + (down ? 32 : 0));
                List<Affine> values = new ArrayList<>();
                if (et) {
                    values.add(v(o.get(2)));
                }
                if (ee) {
                    values.add(v(o.get(3)));
                }
                value = j(values, l.name);
                List<Affine> drifts = new ArrayList<>();
                if (et && ct) {
                    drifts.add(d(o.get(2)));
                }
                if (ee && ce) {
                    drifts.add(d(o.get(3)));
                }
                if (up) {
                    drifts.add(v(o.get(3)).plus(d(o.get(3)), 1).plus(v(o.get(2)), -1));
                }
                if (down) {
                    drifts.add(v(o.get(2)).plus(d(o.get(2)), 1).plus(v(o.get(3)), -1));
                }
                drift = j(drifts, l.name);
            }
            if (fineBefore(l) < l.grid) {
                drift = drift.plus(new Affine(0), 1);
                drift.put(fresh(l.name, 3), BigInteger.ONE.shiftLeft(l.grid - 1));
            }
            this.value.put(l.name, value);
            this.drift.put(l.name, drift);
        }

        /** Whether a whole number is from a to b and from c to d. */
        static boolean meet(long a, long b, long c, long d) {
            for (long n = Math.max(a, c); n <= b && n <= d; n++) {
                return true;
            }
            return false;
        }

        long bound(String name) {
            Affine a = drift.get(name);
            return a.low().abs().max(a.high().abs()).longValueExact();
        }

        long part(String name, String step) {
            BigInteger all = BigInteger.ZERO;
            for (Map.Entry<Integer, BigInteger> e : drift.get(name).noises.entrySet()) {
                if (bringer.get(e.getKey()).equals(step)) {
                    all = all.add(e.getValue().abs());
                }
            }
            return all.longValueExact();
        }

        String blame(String name) {
            String who = null;
            long most = 0;
            for (Line l : lines.values()) {
                if (!l.input && part(name, l.name) > most) {
                    most = part(name, l.name);
                    who = l.name;
                }
            }
            return who;
        }
    }

    private static final class Model {
        static final Set<String> KEYS = Set.of("input", "from", "to", "let", "round", "pick", "then", "else");
        static final Pattern TOKEN = Pattern.compile("[a-z]+|[0-9]+|[^ ]", Pattern.DOTALL);

        String tape = "";
        LinkedHashMap<String, Line> lines = new LinkedHashMap<>();
        Map<String, Integer> point = new HashMap<>();
        Sheet sheet = new Sheet(new LinkedHashMap<>());
        int trouble;
        int fault;
        int place;

        // -- reading

        List<Token> tokens;
        int next;
        LinkedHashMap<String, Line> draft;

        static List<Token> cut(String text) {
            List<Token> all = new ArrayList<>();
            Matcher m = TOKEN.matcher(text);
            while (m.find()) {
                String t = m.group();
                boolean good = t.matches("[a-z]{1,6}|[0-9]{1,4}|[;=+*<-]");
                all.add(new Token(good ? t : "?", m.start()));
            }
            all.add(new Token("", text.length()));
            return all;
        }

        Token peek() {
            return tokens.get(next);
        }

        Token take(String pattern) throws Fault {
            Token t = peek();
            if (!t.text.matches(pattern)) {
                throw new Fault(1, t.place);
            }
            next++;
            return t;
        }

        Token takeName() throws Fault {
            if (KEYS.contains(peek().text)) {
                throw new Fault(1, peek().place);
            }
            return take("[a-z]+");
        }

        String takeNewName() throws Fault {
            Token t = takeName();
            if (draft.containsKey(t.text)) {
                throw new Fault(3, t.place);
            }
            return t.text;
        }

        int takeNumber(int least, boolean even) throws Fault {
            boolean below = peek().text.equals("-");
            if (below) {
                next++;
            }
            Token t = take("[0-9]+");
            int n = Integer.parseInt(t.text) * (below ? -1 : 1);
            if (n < least || n > 1000 || even && Math.abs(n - least) % 2 == 1) {
                throw new Fault(2, t.place);
            }
            return n;
        }

        Operand takeOperand() throws Fault {
            if (peek().text.matches("[a-z]+")) {
                Token t = takeName();
                if (!draft.containsKey(t.text)) {
                    throw new Fault(3, t.place);
                }
                return new Operand(t.text, 0);
            }
            return new Operand(null, takeNumber(-1000, false));
        }

        static BigInteger weight(Operand o, Map<String, BigInteger> known) {
            return o.name == null ? BigInteger.valueOf(Math.abs(o.number)) : known.get(o.name);
        }

        static Map<String, BigInteger> weights(LinkedHashMap<String, Line> lines) {
            Map<String, BigInteger> known = new HashMap<>();
            for (Line l : lines.values()) {
                BigInteger w;
                if (l.input) {
                    w = BigInteger.valueOf(Math.max(Math.abs(l.from), Math.abs(l.to)));
                } else {
                    List<BigInteger> o = l.operands.stream().map(x -> weight(x, known)).toList();
                    if (l.by == '?') {
                        w = o.get(2).add(o.get(3)).multiply(BigInteger.TWO);
                    } else {
                        w = l.by == '*' ? o.get(0).multiply(o.get(1)) : o.get(0).add(o.get(1));
                    }
                    w = w.add(BigInteger.ONE.shiftLeft(l.grid));
                }
                known.put(l.name, w);
            }
            return known;
        }

        static boolean great(LinkedHashMap<String, Line> lines) {
            return weights(lines).values().stream().anyMatch(w -> w.compareTo(BigInteger.valueOf(1_000_000)) > 0);
        }

        void takeLine() throws Fault {
            Token head = take("input|let");
            Line l = new Line();
            l.input = head.text.equals("input");
            long like = draft.values().stream().filter(x -> x.input == l.input).count();
            if (like == (l.input ? 3 : 12)) {
                throw new Fault(4, head.place);
            }
            int namePlace = peek().place;
            l.name = takeNewName();
            if (l.input) {
                take("from");
                l.from = takeNumber(-1000, false);
                take("to");
                l.to = takeNumber(l.from, true);
                draft.put(l.name, l);
                return;
            }
            take("=");
            if (peek().text.equals("pick")) {
                next++;
                l.by = '?';
                l.operands.add(takeOperand());
                take("<");
                l.operands.add(takeOperand());
                take("then");
                l.operands.add(takeOperand());
                take("else");
                l.operands.add(takeOperand());
            } else {
                l.operands.add(takeOperand());
                l.by = take("[+*-]").text.charAt(0);
                l.operands.add(takeOperand());
            }
            take("round");
            Token g = take("[0-9]+");
            l.grid = Integer.parseInt(g.text);
            if (l.grid > 8) {
                throw new Fault(2, g.place);
            }
            draft.put(l.name, l);
            if (great(draft)) {
                throw new Fault(5, namePlace);
            }
        }

        void read(String text) throws Fault {
            tokens = cut(text);
            next = 0;
            draft = new LinkedHashMap<>();
            takeLine();
            while (!peek().text.isEmpty()) {
                take(";");
                takeLine();
            }
            if (draft.values().stream().allMatch(l -> l.input)) {
                throw new Fault(6, text.length());
            }
        }

        // -- helpers

        String name(int v) {
            return v < 0 || v >= lines.size() ? null : new ArrayList<>(lines.keySet()).get(v);
        }

        int number(String name) {
            return new ArrayList<>(lines.keySet()).indexOf(name);
        }

        List<Line> inputs(LinkedHashMap<String, Line> of) {
            return of.values().stream().filter(l -> l.input).toList();
        }

        boolean variable(int v) {
            return name(v) != null;
        }

        boolean input(int v) {
            return variable(v) && lines.get(name(v)).input;
        }

        boolean step(int v) {
            return variable(v) && !lines.get(name(v)).input;
        }

        boolean pick(int v) {
            return step(v) && lines.get(name(v)).by == '?';
        }

        long refuse(int number, long answer) {
            trouble = number;
            return answer;
        }

        static LinkedHashMap<String, Line> copy(LinkedHashMap<String, Line> of) {
            LinkedHashMap<String, Line> c = new LinkedHashMap<>();
            of.forEach((k, l) -> c.put(k, l.copy()));
            return c;
        }

        void become(LinkedHashMap<String, Line> now) {
            lines = now;
            sheet = new Sheet(now);
        }

        static long round(long n, int k) {
            long size = 1L << k;
            long down = Math.floorDiv(n, size) * size;
            long up = down + size;
            if (n - down != up - n) {
                return n - down < up - n ? down : up;
            }
            return Math.floorMod(down / size, 2) == 0 ? down : up;
        }

        long value(Operand o, Map<String, Integer> at, boolean rounded) {
            return o.name == null ? o.number : value(lines.get(o.name), at, rounded);
        }

        boolean then(Line l, Map<String, Integer> at, boolean rounded) {
            return value(l.operands.get(0), at, rounded) < value(l.operands.get(1), at, rounded);
        }

        final Map<String, Long> memo = new HashMap<>();

        long fresh(Line l, Map<String, Integer> at, boolean rounded) {
            memo.clear();
            return value(l, at, rounded);
        }

        long value(Line l, Map<String, Integer> at, boolean rounded) {
            if (l.input) {
                return at.get(l.name);
            }
            Long known = memo.get(l.name + rounded);
            if (known != null) {
                return known;
            }
            long n;
            if (l.by == '?') {
                n = value(l.operands.get(then(l, at, rounded) ? 2 : 3), at, rounded);
            } else {
                long a = value(l.operands.get(0), at, rounded);
                long b = value(l.operands.get(1), at, rounded);
                n = l.by == '+' ? a + b : l.by == '-' ? a - b : a * b;
            }
            n = rounded ? round(n, l.grid) : n;
            memo.put(l.name + rounded, n);
            return n;
        }

        long error(int v, Map<String, Integer> at) {
            Line l = lines.get(name(v));
            return Math.abs(fresh(l, at, true) - fresh(l, at, false));
        }

        int went(int v, Map<String, Integer> at) {
            memo.clear();
            Line l = lines.get(name(v));
            return (then(l, at, false) ? 1 : 0) + (then(l, at, true) ? 2 : 0);
        }

        // -- the face

        long feed(String twenty) {
            if (tape.length() + 20 > 500) {
                return -1;
            }
            tape += twenty;
            return tape.length();
        }

        long program(int n) {
            if (n < 0 || n > tape.length()) {
                return refuse(2, -1);
            }
            String text = tape.substring(0, n);
            tape = "";
            try {
                read(text);
            } catch (Fault f) {
                fault = f.number;
                place = f.place;
                return refuse(4, -1);
            }
            fault = 0;
            become(draft);
            point.clear();
            inputs(lines).forEach(l -> point.put(l.name, l.from));
            return refuse(0, lines.size());
        }

        long where() {
            return trouble == 4 ? place : -1;
        }

        long points() {
            BigInteger all = BigInteger.ONE;
            for (Line l : inputs(lines)) {
                all = all.multiply(BigInteger.valueOf(l.to - l.from + 1));
            }
            return all.longValueExact();
        }

        long about(int what) {
            if (lines.isEmpty() || what < 0 || what > 4) {
                return refuse(1, -1);
            }
            long in = inputs(lines).size();
            return refuse(0, new long[] {lines.size(), in, lines.size() - in, sheet.bringer.size(), Math.min(points(), 999_999_999)}[what]);
        }

        long variable(int v, int what) {
            if (!variable(v) || what < 0 || what > 6) {
                return refuse(1, NOTHING);
            }
            Line l = lines.get(name(v));
            long w = weights(lines).get(l.name).longValueExact();
            long[] step = {0, 0, 0, "+-*?".indexOf(l.by), l.grid, sheet.fine(l), w};
            long[] input = {1, l.from, l.to, -2, -2, 0, w};
            return refuse(0, (l.input ? input : step)[what]);
        }

        long operand(int v, int operand) {
            if (!step(v) || operand < 0 || operand >= lines.get(name(v)).operands.size()) {
                return refuse(1, -1);
            }
            Operand o = lines.get(name(v)).operands.get(operand);
            return refuse(0, o.name == null ? -2 : number(o.name));
        }

        long set(int v, int n) {
            if (!input(v)) {
                return refuse(1, 0);
            }
            Line l = lines.get(name(v));
            if (n < l.from || n > l.to) {
                return refuse(2, 0);
            }
            point.put(l.name, n);
            return refuse(0, 1);
        }

        long at(int v, int what) {
            if (!variable(v) || what < 0 || what > 2) {
                return refuse(1, NOTHING);
            }
            long exact = fresh(lines.get(name(v)), point, false);
            long computed = fresh(lines.get(name(v)), point, true);
            return refuse(0, new long[] {exact, computed, computed - exact}[what]);
        }

        long went(int v) {
            if (!step(v)) {
                return refuse(1, -1);
            }
            return pick(v) ? refuse(0, went(v, point)) : refuse(5, -1);
        }

        Affine affine(int v, boolean drift) {
            return (drift ? sheet.drift : sheet.value).get(name(v));
        }

        long form(int v, boolean drift, int noise) {
            if (!variable(v) || noise < -1 || noise >= sheet.bringer.size()) {
                return refuse(1, NOTHING);
            }
            Affine a = affine(v, drift);
            return refuse(0, (noise < 0 ? a.middle : a.by(noise)).longValueExact());
        }

        long reach(int v, boolean drift, int what) {
            if (!variable(v) || what < 0 || what > 2) {
                return refuse(1, NOTHING);
            }
            Affine a = affine(v, drift);
            return refuse(0, new BigInteger[] {a.low(), a.high(), a.radius()}[what].longValueExact());
        }

        long bound(int v) {
            return variable(v) ? refuse(0, sheet.bound(name(v))) : refuse(1, NOTHING);
        }

        long noise(int noise, int what) {
            if (noise < 0 || noise >= sheet.bringer.size() || what < 0 || what > 1) {
                return refuse(1, -1);
            }
            return refuse(0, what == 0 ? number(sheet.bringer.get(noise)) : sheet.how.get(noise));
        }

        long shared(int v, int w) {
            if (!variable(v) || !variable(w)) {
                return refuse(1, -1);
            }
            return refuse(0, affine(v, true).noises.keySet().stream().filter(affine(w, true).noises::containsKey).count());
        }

        long part(int v, int step) {
            if (!variable(v) || !step(step)) {
                return refuse(1, NOTHING);
            }
            return refuse(0, sheet.part(name(v), name(step)));
        }

        long blame(int v) {
            if (!variable(v)) {
                return refuse(1, -1);
            }
            String who = sheet.blame(name(v));
            return refuse(0, who == null ? -2 : number(who));
        }

        long may(int v) {
            if (!step(v)) {
                return refuse(1, -1);
            }
            return pick(v) ? refuse(0, sheet.may.get(name(v))) : refuse(5, -1);
        }

        record Piece(LinkedHashMap<String, Line> lines, long bound) { }

        Piece piece(LinkedHashMap<String, Line> of, int v) {
            return new Piece(of, new Sheet(of).bound(name(v)));
        }

        static Piece worst(List<Piece> pieces) {
            Piece worst = pieces.get(0);
            for (Piece p : pieces) {
                worst = p.bound > worst.bound ? p : worst;
            }
            return worst;
        }

        boolean splitOnce(List<Piece> pieces, int v) {
            Piece worst = worst(pieces);
            Line widest = null;
            for (Line l : inputs(worst.lines)) {
                if (l.to > l.from && (l.to - l.from) % 4 == 0 && (widest == null || l.to - l.from > widest.to - widest.from)) {
                    widest = l;
                }
            }
            if (widest == null) {
                return false;
            }
            int middle = (widest.from + widest.to) / 2;
            LinkedHashMap<String, Line> left = copy(worst.lines);
            left.get(widest.name).to = middle;
            LinkedHashMap<String, Line> right = copy(worst.lines);
            right.get(widest.name).from = middle;
            pieces.remove(worst);
            pieces.add(piece(left, v));
            pieces.add(piece(right, v));
            return true;
        }

        long split(int v, int n, int what) {
            if (!variable(v) || what < 0 || what > 1) {
                return refuse(1, NOTHING);
            }
            if (n < 0 || n > 40) {
                return refuse(2, NOTHING);
            }
            List<Piece> pieces = new ArrayList<>(List.of(piece(lines, v)));
            for (int i = 0; i < n; i++) {
                if (!splitOnce(pieces, v)) {
                    break;
                }
            }
            return refuse(0, what == 0 ? worst(pieces).bound : pieces.size());
        }

        long splits(int v, int limit) {
            if (!variable(v)) {
                return refuse(1, -1);
            }
            if (limit < 0 || limit > 1_000_000) {
                return refuse(2, -1);
            }
            List<Piece> pieces = new ArrayList<>(List.of(piece(lines, v)));
            int n = 0;
            while (worst(pieces).bound > limit) {
                n++;
                if (n > 40 || !splitOnce(pieces, v)) {
                    return refuse(0, -2);
                }
            }
            return refuse(0, n);
        }

        long seed;

        Map<String, Integer> drawn() {
            Map<String, Integer> at = new HashMap<>();
            for (Line l : inputs(lines)) {
                seed = (seed * 75 + 74) % 65537;
                at.put(l.name, l.from + (int) (seed % (l.to - l.from + 1)));
            }
            return at;
        }

        boolean move(int v, Map<String, Integer> at) {
            long before = error(v, at);
            for (Line l : inputs(lines)) {
                int was = at.get(l.name);
                for (int k = 8; k >= 0; k--) {
                    for (int way : new int[] {1, -1}) {
                        int now = was + way * (1 << k);
                        if (now >= l.from && now <= l.to) {
                            at.put(l.name, now);
                            if (error(v, at) > before) {
                                return true;
                            }
                            at.put(l.name, was);
                        }
                    }
                }
            }
            return false;
        }

        Map<String, Integer> climbTo(int v, int n, int from) {
            seed = from;
            Map<String, Integer> best = null;
            for (int i = 0; i < n; i++) {
                Map<String, Integer> at = drawn();
                int moves = 0;
                while (moves < 40 && move(v, at)) {
                    moves++;
                }
                best = best == null || error(v, at) > error(v, best) ? at : best;
            }
            return best;
        }

        long climb(int v, int n, int from) {
            if (!variable(v)) {
                return refuse(1, NOTHING);
            }
            if (n < 1 || n > 10 || from < 0 || from > 65536) {
                return refuse(2, NOTHING);
            }
            return refuse(0, error(v, climbTo(v, n, from)));
        }

        long witness(int v, int n, int from, int input) {
            if (!variable(v)) {
                return refuse(1, NOTHING);
            }
            if (n < 1 || n > 10 || from < 0 || from > 65536) {
                return refuse(2, NOTHING);
            }
            if (!input(input)) {
                return refuse(1, NOTHING);
            }
            return refuse(0, climbTo(v, n, from).get(name(input)));
        }

        long worstFrom(int v, int i, Map<String, Integer> at) {
            List<Line> in = inputs(lines);
            if (i == in.size()) {
                return error(v, at);
            }
            long most = 0;
            for (int n = in.get(i).from; n <= in.get(i).to; n++) {
                at.put(in.get(i).name, n);
                most = Math.max(most, worstFrom(v, i + 1, at));
            }
            return most;
        }

        long worst(int v) {
            if (!variable(v)) {
                return refuse(1, NOTHING);
            }
            if (points() > 2000) {
                return refuse(3, NOTHING);
            }
            return refuse(0, worstFrom(v, 0, new HashMap<>()));
        }

        long parts(int v, int n, int from) {
            if (!step(v)) {
                return refuse(1, -1);
            }
            if (!pick(v)) {
                return refuse(5, -1);
            }
            if (n < 1 || n > 200 || from < 0 || from > 65536) {
                return refuse(2, -1);
            }
            seed = from;
            for (int i = 0; i < n; i++) {
                int went = went(v, drawn());
                if (went == 1 || went == 2) {
                    return refuse(0, i);
                }
            }
            return refuse(0, -2);
        }

        long finer(int v, int limit) {
            if (!variable(v)) {
                return refuse(1, -1);
            }
            if (limit < 0 || limit > 1_000_000) {
                return refuse(2, -1);
            }
            LinkedHashMap<String, Line> paper = copy(lines);
            for (int times = 0; true; times++) {
                Sheet s = new Sheet(paper);
                if (s.bound(name(v)) <= limit) {
                    return refuse(0, times);
                }
                String who = s.blame(name(v));
                if (who == null || paper.get(who).grid == 0) {
                    return refuse(0, -2);
                }
                paper.get(who).grid--;
            }
        }

        long grid(int v, int k) {
            if (!step(v)) {
                return refuse(1, -1);
            }
            if (k < 0 || k > 8) {
                return refuse(2, -1);
            }
            LinkedHashMap<String, Line> now = copy(lines);
            int was = now.get(name(v)).grid;
            now.get(name(v)).grid = k;
            if (great(now)) {
                return refuse(5, -1);
            }
            become(now);
            return refuse(0, was);
        }

        long range(int v, int from, int to) {
            if (!input(v)) {
                return refuse(1, 0);
            }
            if (Math.abs((long) from) > 1000 || Math.abs((long) to) > 1000 || to < from || (to - from) % 2 != 0) {
                return refuse(2, 0);
            }
            LinkedHashMap<String, Line> now = copy(lines);
            now.get(name(v)).from = from;
            now.get(name(v)).to = to;
            if (great(now)) {
                return refuse(5, 0);
            }
            become(now);
            point.put(name(v), from);
            return refuse(0, 1);
        }

        long doubtful(int i) {
            List<Integer> all = new ArrayList<>();
            for (int v = 0; v < lines.size(); v++) {
                if (pick(v) && sheet.may.get(name(v)) >= 16) {
                    all.add(v);
                }
            }
            return i < 0 || i >= all.size() ? NOTHING : all.get(i);
        }
    }

    // ---- drawn texts

    private static final String[] NAMES = {"a", "b", "c", "x", "y", "z", "abcdef", "lets", "inp", "pic", "tog", "els", "q", "r", "s", "t", "u"};

    private static int drawNumber(Random dice, int most) {
        int[] dear = {0, 1, 2, 4, 8, 16, 256, 512, 1000};
        int n = dice.nextInt(3) == 0 ? dear[dice.nextInt(dear.length)] : dice.nextInt(most + 1);
        return dice.nextInt(3) == 0 ? -n : n;
    }

    private static String drawOperand(Random dice, List<String> told, int most) {
        if (!told.isEmpty() && dice.nextInt(4) != 0) {
            return told.get(dice.nextBoolean() ? told.size() - 1 : dice.nextInt(told.size()));
        }
        return "" + drawNumber(dice, most);
    }

    private static String drawProgram(Random dice) {
        int inputs = dice.nextInt(4);
        int steps = 1 + dice.nextInt(dice.nextInt(4) == 0 ? 12 : 6);
        int most = dice.nextBoolean() ? 6 : dice.nextInt(4) == 0 ? 1000 : 60;
        int width = dice.nextBoolean() ? 8 : dice.nextInt(3) == 0 ? 900 : 40;
        List<String> told = new ArrayList<>();
        List<String> names = new ArrayList<>(Arrays.asList(NAMES));
        StringBuilder text = new StringBuilder();
        while (inputs + steps > 0) {
            boolean input = inputs > 0 && (steps == 0 || dice.nextInt(4) != 0);
            String name = names.remove(dice.nextInt(names.size()));
            text.append(text.length() == 0 ? "" : dice.nextInt(4) == 0 ? " ; " : ";");
            if (input) {
                int half = dice.nextInt(5) == 0 ? 0 : dice.nextInt(width / 2 + 1);
                half = dice.nextInt(2) == 0 ? half / 4 * 4 : half;
                int from = Math.max(-1000, Math.min(1000 - 2 * half, drawNumber(dice, most)));
                text.append("input ").append(name).append(" from ").append(from).append(" to ").append(from + 2 * half);
                inputs--;
            } else {
                text.append("let ").append(name).append("=");
                int by = dice.nextInt(6);
                if (by < 2) {
                    text.append("pick ").append(drawOperand(dice, told, most)).append("<").append(drawOperand(dice, told, most));
                    text.append(" then ").append(drawOperand(dice, told, most)).append(" else ").append(drawOperand(dice, told, most));
                } else {
                    text.append(drawOperand(dice, told, most)).append("+-**".charAt(by - 2)).append(drawOperand(dice, told, most));
                }
                text.append(" round ").append(dice.nextInt(3) == 0 ? dice.nextInt(9) : dice.nextInt(4));
                steps--;
            }
            told.add(name);
        }
        return text.toString();
    }

    /** A few tokens or bytes put in, taken out, doubled. */
    private static String spoil(Random dice, String text) {
        String[] bits = {";", "=", "+", "-", "*", "<", " ", "let ", "input ", "from", "to", "round ", "pick ", "then ", "else ", "a", "x", "zz",
            "0", "1", "9", "1000", "1001", "99999", "abcdefg", "A", "\u00ff", "\u0000", "\n"};
        StringBuilder out = new StringBuilder(text);
        for (int times = 1 + dice.nextInt(2); times > 0 && out.length() > 0; times--) {
            int at = dice.nextInt(out.length());
            switch (dice.nextInt(4)) {
                case 0 -> out.deleteCharAt(at);
                case 1 -> out.insert(at, bits[dice.nextInt(bits.length)]);
                case 2 -> out.replace(at, at + 1, bits[dice.nextInt(bits.length)]);
                default -> out.setLength(at);
            }
        }
        return out.toString();
    }

    // ---- the runs

    private final RoundedSums real = new RoundedSums();
    private final Model model = new Model();
    private final List<String> log = new ArrayList<>();
    private boolean good = true;

    private void same(String call, long got, long want) {
        log.add(call + " -> " + got);
        check(call, got, want);
        check("trouble()", real.trouble(), model.trouble);
        check("where()", real.where(), model.where());
        check("fault()", real.fault(), model.fault);
        check("size()", real.size(), model.tape.length());
    }

    private void check(String call, long got, long want) {
        if (got != want && good) {
            good = false;
            wrong++;
            log.forEach(System.out::println);
            System.out.println(call + " answered " + got + ", due is " + want);
        }
    }

    private void feed(String twenty) {
        int[] n = new int[5];
        for (int i = 0; i < 20; i++) {
            n[i / 4] |= twenty.charAt(i) << (24 - i % 4 * 8);
        }
        same("feed " + twenty, real.feed(n[0], n[1], n[2], n[3], n[4]), model.feed(twenty));
    }

    private void tell(String text) {
        for (int at = 0; at < text.length(); at += 20) {
            feed(String.format("%-20s", text.substring(at, Math.min(text.length(), at + 20))));
        }
        same("program " + text, real.program(text.length()), model.program(text.length()));
    }

    private long doubtful(int i) {
        try {
            return real.doubtful(i);
        } catch (NoSuchElementException e) {
            return NOTHING;
        }
    }

    private int near(Random dice, int count) {
        return dice.nextInt(12) == 0 ? dice.nextBoolean() ? -1 - dice.nextInt(2) : count + dice.nextInt(2) : dice.nextInt(Math.max(1, count));
    }

    private int edge(Random dice, int least, int most) {
        switch (dice.nextInt(12)) {
            case 0:
                return least - 1;
            case 1:
                return most + 1;
            case 2:
                return most;
            case 3:
                return least;
            default:
                return least + dice.nextInt(most - least + 1);
        }
    }

    private void quickCall(Random dice, int v, int w) {
        int noises = model.sheet.bringer.size();
        boolean drift = dice.nextBoolean();
        int n = near(dice, noises + 1) - 1;
        int what = near(dice, 7);
        int few = near(dice, 3);
        switch (dice.nextInt(15)) {
            case 0 -> same("about " + what, real.about(what), model.about(what));
            case 1 -> same("variable " + v + " " + what, real.variable(v, what), model.variable(v, what));
            case 2 -> same("operand " + v + " " + few, real.operand(v, few), model.operand(v, few));
            case 3 -> {
                int to = model.input(v) ? edge(dice, model.lines.get(model.name(v)).from, model.lines.get(model.name(v)).to) : few;
                same("set " + v + " " + to, real.set(v, to) ? 1 : 0, model.set(v, to));
            }
            case 4 -> same("at " + v + " " + few, real.at(v, few), model.at(v, few));
            case 5 -> same("went " + v, real.went(v), model.went(v));
            case 6 -> same("form " + v + drift + n, real.form(v, drift, n), model.form(v, drift, n));
            case 7 -> same("reach " + v + drift + few, real.reach(v, drift, few), model.reach(v, drift, few));
            case 8 -> same("bound " + v, real.bound(v), model.bound(v));
            case 9 -> same("noise " + n + " " + (few - 1), real.noise(n, few - 1), model.noise(n, few - 1));
            case 10 -> same("shared " + v + " " + w, real.shared(v, w), model.shared(v, w));
            case 11 -> same("part " + v + " " + w, real.part(v, w), model.part(v, w));
            case 12 -> same("blame " + v, real.blame(v), model.blame(v));
            case 13 -> same("may " + v, real.may(v), model.may(v));
            default -> same("doubtful " + few, doubtful(few), model.doubtful(few));
        }
    }

    private void slowCall(Random dice, int v, int w) {
        long bound = model.variable(v) ? model.sheet.bound(model.name(v)) : 5;
        int limit = dice.nextInt(4) == 0 ? edge(dice, 0, 1_000_000) : (int) (bound * dice.nextInt(11) / 10);
        int seed = edge(dice, 0, 65_536);
        switch (dice.nextInt(10)) {
            case 0 -> {
                int n = edge(dice, 0, 40);
                int what = near(dice, 2);
                same("split " + v + " " + n + " " + what, real.split(v, n, what), model.split(v, n, what));
            }
            case 1 -> same("splits " + v + " " + limit, real.splits(v, limit), model.splits(v, limit));
            case 2 -> {
                int n = edge(dice, 1, 10);
                same("climb " + v + " " + n + " " + seed, real.climb(v, n, seed), model.climb(v, n, seed));
            }
            case 3, 4 -> {
                int n = edge(dice, 1, 10);
                same("witness " + v + " " + n + " " + seed + " " + w, real.witness(v, n, seed, w), model.witness(v, n, seed, w));
            }
            case 5 -> same("worst " + v, real.worst(v), model.worst(v));
            case 6 -> {
                int n = edge(dice, 1, 200);
                same("parts " + v + " " + n + " " + seed, real.parts(v, n, seed), model.parts(v, n, seed));
            }
            case 7 -> same("finer " + v + " " + limit, real.finer(v, limit), model.finer(v, limit));
            case 8 -> {
                int k = edge(dice, 0, 8);
                same("grid " + v + " " + k, real.grid(v, k), model.grid(v, k));
            }
            default -> {
                int from = dice.nextInt(4) == 0 ? edge(dice, -1000, 1000) : dice.nextInt(40) - 20;
                int to = dice.nextInt(4) == 0 ? edge(dice, -1000, 1000) : from + 2 * dice.nextInt(20);
                same("range " + v + " " + from + " " + to, real.range(v, from, to) ? 1 : 0, model.range(v, from, to));
            }
        }
    }

    /** What the document says of the forms holds at THE POINT. */
    private void sound() {
        for (int v = 0; v < model.lines.size(); v++) {
            check("an ERROR within its DRIFT", real.at(v, 2) >= real.reach(v, true, 0) && real.at(v, 2) <= real.reach(v, true, 1) ? 1 : 0, 1);
            check("EXACT within its VALUE", real.at(v, 0) >= real.reach(v, false, 0) && real.at(v, 0) <= real.reach(v, false, 1) ? 1 : 0, 1);
            if (model.pick(v)) {
                int went = real.went(v);
                int bits = went == 0 ? 2 | 8 : went == 1 ? 1 | 8 | 16 : went == 2 ? 2 | 4 | 32 : 1 | 4;
                check("what goes may go", real.may(v) & bits, bits);
            }
        }
        if (!model.lines.isEmpty()) {
            model.trouble = 0;
        }
        real.about(0);
        if (model.lines.isEmpty()) {
            model.trouble = 1;
        }
    }

    private void play(Random dice) {
        for (int texts = 0; texts < 3 && good; texts++) {
            String text = drawProgram(dice);
            text = dice.nextInt(4) == 0 ? spoil(dice, text) : text;
            if (text.length() <= 480) {
                tell(text);
            }
            if (dice.nextInt(5) == 0) {
                feed("let a = 1 + 1 round ");
                int n = near(dice, 21);
                same("program " + n, real.program(n), model.program(n));
            }
            for (int calls = 0; calls < 24 && good; calls++) {
                int v = near(dice, model.lines.size());
                int w = near(dice, model.lines.size());
                if (dice.nextInt(4) == 0) {
                    slowCall(dice, v, w);
                } else {
                    quickCall(dice, v, w);
                }
            }
            sound();
        }
    }

    /** Programs that go to the limits: of splits, of moves in one climb, of noises, of finer grids, of like names. */
    private static final String[] FAR = {
        // The greatest BOUND of v (10) becomes less by the 40th split.
        "input x from 59 to 699;input y from -43 to 69;let r=1+0 round 1;let p=x*r round 0;let q=x*r round 0;let s=p-q round 0;"
            + "let u=s+p round 0;let t=y*r round 0;let z=y*r round 0;let m=t-z round 0;let v=u+m round 0;let k=s+m round 0;let g=k+s round 0",
        // r is 0 instead of 1, so that the ERROR of p is f: a ridge on which one goes by twos, x and y in turn.
        "input x from 0 to 400;input y from 0 to 400;let r=1+0 round 1;let d=x-y round 0;let n=0-d round 0;let e=pick d<0 then n else d round 0;"
            + "let g=e-1 round 0;let h=pick g<0 then 0 else g round 0;let k=h*4 round 0;let s=x+y round 0;let o=s+1000 round 0;let f=o-k round 0;let p=f*r round 0",
        // Sixty noises.
        "input x from 1 to 3;input y from 1 to 3;input z from 2 to 4;let a=x*y round 1;let b=a*a round 3;let c=a*a round 3;let d=a*a round 3;"
            + "let e=a*a round 3;let f=a*a round 3;let g=a*a round 3;let h=a*a round 3;let i=a*a round 3;let j=a*a round 3;let k=a*a round 3;let l=a*a round 3",
        // Ninety-six times finer.
        "input x from 0 to 2;let a=x+0 round 8;let b=a+x round 8;let c=b+x round 8;let d=c+x round 8;let e=d+x round 8;let f=e+x round 8;"
            + "let g=f+x round 8;let h=g+x round 8;let i=h+x round 8;let j=i+x round 8;let k=j+x round 8;let l=k+x round 8",
        "let a=1+0 round 0;let aa=a+1 round 0;let b=aa+1 round 0;let bb=b+1 round 0;let ba=bb+1 round 0;let z=ba+1 round 0;let az=z+1 round 0;"
            + "let zz=az+1 round 0;let aaaaaa=zz+1 round 0;let zzzzzz=aaaaaa+1 round 0",
    };

    private void playFar(String text) {
        tell(text);
        for (int v = 0; v < model.lines.size() && good; v++) {
            for (int n = 0; n <= 40; n++) {
                same("split " + v + " " + n + " 1", real.split(v, n, 1), model.split(v, n, 1));
                long bound = model.split(v, n, 0);
                same("split " + v + " " + n + " 0", real.split(v, n, 0), bound);
                int limit = (int) Math.max(0, bound - 1);
                if (n >= 30 || n < 3) {
                    same("splits " + v + " " + bound, real.splits(v, (int) bound), model.splits(v, (int) bound));
                    same("splits " + v + " " + limit, real.splits(v, limit), model.splits(v, limit));
                }
            }
            for (int seed = 0; seed < 6; seed++) {
                same("climb " + v + " 1 " + seed, real.climb(v, 1, seed), model.climb(v, 1, seed));
                same("climb " + v + " 10 " + seed, real.climb(v, 10, seed), model.climb(v, 10, seed));
                same("witness " + v + " 1 " + seed, real.witness(v, 1, seed, 0), model.witness(v, 1, seed, 0));
                same("witness " + v + " 10 " + seed, real.witness(v, 10, seed, 1), model.witness(v, 10, seed, 1));
                same("parts " + v + " 200 " + seed, real.parts(v, 200, seed), model.parts(v, 200, seed));
                same("finer " + v + " " + seed, real.finer(v, seed), model.finer(v, seed));
            }
            same("worst " + v, real.worst(v), model.worst(v));
            for (int noise = -1; noise < real.about(3); noise++) {
                same("form " + v + " " + noise, real.form(v, false, noise), model.form(v, false, noise));
                same("form " + v + " drift " + noise, real.form(v, true, noise), model.form(v, true, noise));
            }
            same("at " + v, real.at(v, 1), model.at(v, 1));
        }
    }

    public static void main(String[] args) {
        for (String text : FAR) {
            new OracleTest().playFar(text);
        }
        int runs = args.length > 0 ? Integer.parseInt(args[0]) : 3000;
        long from = args.length > 1 ? Long.parseLong(args[1]) : 0;
        int[] troubles = new int[6];
        int[] faults = new int[7];
        for (int run = 0; run < runs && wrong < 3; run++) {
            OracleTest test = new OracleTest();
            test.play(new Random(from + run));
            troubles[test.model.trouble]++;
            faults[test.model.fault]++;
        }
        System.out.println("faults at the ends of runs: " + Arrays.toString(faults));
        System.out.println(wrong == 0 ? "all answers are as due" : wrong + " runs are not as due");
        if (wrong != 0) {
            System.exit(1);
        }
    }
}
