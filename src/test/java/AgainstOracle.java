import java.util.ArrayDeque;
import java.util.ArrayList;
import java.util.Arrays;
import java.util.Deque;
import java.util.List;
import java.util.Random;
import java.util.TreeMap;

/**
 * Random runs of calls on the class and on an oracle that is written in the most naive way: every
 * line of sight is followed on its own, every set of cells tried, every text parsed by a table.
 * Arguments: how many runs, the first seed.
 */
public final class AgainstOracle {
    static final int NONE = -1;

    public static void main(String[] args) {
        int runs = args.length > 0 ? Integer.parseInt(args[0]) : 1500;
        int first = args.length > 1 ? Integer.parseInt(args[1]) : 1;
        int wrong = 0;
        for (int seed = first; seed < first + runs && wrong < 5; seed++) {
            wrong += new Run(seed).go();
        }
        System.out.println(wrong == 0 ? runs + " runs agree with the oracle" : wrong + " runs disagree");
        if (wrong != 0) {
            System.exit(1);
        }
    }

    /** One run of random calls; prints the calls if an answer is not the oracle's. */
    static final class Run {
        final Random random;
        final int seed;
        final MirrorHeirs heirs = new MirrorHeirs();
        final Oracle oracle = new Oracle();
        final List<String> calls = new ArrayList<>();
        boolean wrong;

        Run(int seed) {
            this.seed = seed;
            random = new Random(seed);
        }

        int go() {
            int length = 60 + random.nextInt(380);
            if (pick(4) == 0) {
                quarrelsome();
            } else if (pick(4) > 0) {
                furnish();
            }
            while (calls.size() < length && !wrong) {
                step();
            }
            return wrong ? 1 : 0;
        }

        int pick(int bound) {
            return random.nextInt(bound);
        }

        int cell() {
            return pick(60) == 0 ? (pick(2) == 0 ? -1 - pick(3) : 64 + pick(3)) : pick(64);
        }

        int small(int most) {
            return pick(25) == 0 ? most + pick(3) : pick(30) == 0 ? -1 - pick(2) : pick(most);
        }

        /** Mostly one of those that are there. */
        int one(int size) {
            return size == 0 || pick(15) == 0 ? pick(10) - 2 : pick(size);
        }

        int anHeir() {
            return one(oracle.s.heirs.size());
        }

        int aThing() {
            return one(oracle.s.things.size());
        }

        int aPivot() {
            return one(oracle.s.pivots.size());
        }

        void furnish() {
            int glasses = 4 + pick(22);
            boolean whole = pick(3) == 0;
            for (int i = 0; i < glasses; i++) {
                put(pick(64), whole ? 1 + pick(2) : 1 + pick(5));
            }
            for (int i = pick(6); i > 0; i--) {
                heir(pick(64), pick(100));
            }
            for (int i = pick(12); i > 0; i--) {
                thing(pick(64), 1 + pick(99), pick(10));
            }
            if (pick(2) == 0) {
                terms(0, 1 + pick(6));
            }
            for (int cell = 0, left = 1 + pick(7); cell < 64 && left > 0; cell++) {
                int kind = oracle.at(cell, 0);
                if (kind != 0 && kind != 3 && pick(3) == 0) {
                    pivot(cell, pick(3) > 0 ? anHeir() : pick(7) - 1, pick(3) == 0 ? 5 : pick(100));
                    left--;
                }
            }
            for (int i = pick(4); i > 0; i--) {
                candle(pick(64));
            }
            if (pick(2) == 0) {
                text(new Writer(random, true).text());
                law();
                force(0);
            }
        }

        /** Halls in which estates hang on who turns what. */
        void quarrelsome() {
            terms(0, 3 + pick(4));
            String[] laws = {"claims worth", "claims 1 + high", "claims 7 - glance; claims age if age > 50", "claims [x + y] * heir % 7",
                "claims glance * 3; fogs if x = 3 and glance > 1", "claims 2; bars if thing % 3 = heir", "claims 1 + lit * 8"};
            text(laws[pick(laws.length)]);
            law();
            force(0);
            for (int i = 8 + pick(10); i > 0; i--) {
                put(pick(64), pick(8) == 0 ? 3 + pick(3) : 1 + pick(2));
            }
            for (int i = 2 + pick(3); i > 0; i--) {
                heir(pick(64), pick(100));
            }
            for (int i = 3 + pick(9); i > 0; i--) {
                thing(pick(64), 1 + pick(99), pick(10));
            }
            candle(pick(64));
            for (int i = 2 + pick(6); i > 0; i--) {
                pivot(glassCell(), pick(Math.max(1, oracle.s.heirs.size())), pick(9));
            }
            for (int i = 0; i < 4; i++) {
                peace(i);
                quarrel(i);
                reveal(anHeir(), aThing(), 1 + pick(6), pick(2));
                hide(anHeir(), aThing(), pick(4) - 1);
                claim(anHeir(), aThing(), pick(3));
            }
        }

        void step() {
            int kind = pick(100);
            if (kind < 5) { put(cell(), pick(30) == 0 ? pick(9) - 2 : pick(3) == 0 ? 0 : pick(6)); }
            else if (kind < 8) { pivot(glassCell(), pick(3) > 0 ? anHeir() : small(7) - 1, small(100)); }
            else if (kind < 13) { turn(aPivot()); }
            else if (kind < 16) { heir(cell(), small(100)); }
            else if (kind < 21) { move(anHeir(), cell()); }
            else if (kind < 24) { undo(); }
            else if (kind < 27) { thing(cell(), 1 + small(99), small(10)); }
            else if (kind < 28) { candle(cell()); }
            else if (kind < 31) { int what = small(3); terms(what, pick(12) == 0 ? pick(30) - 3 : what == 0 ? 1 + pick(6) : what == 1 ? pick(24) : pick(11)); }
            else if (kind < 33) { bytes(rowBytes()); row(); dust(); }
            else if (kind < 37) { text(new Writer(random, true).text()); law(); fault(); }
            else if (kind < 42) { text(new Writer(random, false).text()); orders(); fault(); stopped(); }
            else if (kind < 45) { force(pick(5) == 0 ? -1 : one(oracle.s.laws.size())); }
            else if (kind < 49) { ray(cell(), small(4), pick(12) - 2); }
            else if (kind < 53) { glance(cell(), cell()); }
            else if (kind < 55) { views(cell()); }
            else if (kind < 57) { pair(anHeir(), anHeir()); }
            else if (kind < 62) { claim(anHeir(), aThing(), small(3)); }
            else if (kind < 64) { owner(aThing(), small(2)); }
            else if (kind < 67) { estate(anHeir()); }
            else if (kind < 69) { lit(pick(3) == 0 ? -1 : cell()); }
            else if (kind < 71) { int n = pick(20) == 0 ? 4 : 1 + small(3); stand(n, pick(7) - 1); }
            else if (kind < 73) { telling(); }
            else if (kind < 75) { turned(small(3)); }
            else if (kind < 76) { hint(anHeir(), small(8) - 1); }
            else if (kind < 78) { stranger(pick(12) - 2); }
            else if (kind < 79) { if (pick(3) == 0) forget(); }
            else if (kind < 82) { reveal(anHeir(), aThing(), small(7), small(2)); }
            else if (kind < 84) { hide(anHeir(), aThing(), pick(8) - 2); }
            else if (kind < 86) { hides(pillarCell()); }
            else if (kind < 88) { peace(small(3)); }
            else if (kind < 90) { quarrel(small(3)); }
            else if (kind < 92) { draughts(pick(15) == 0 ? pick(7) - 3 + pick(2) * 1000000 : pick(1000001), small(49)); drawn(one(oracle.drawn.size()), small(2)); }
            else if (kind < 94) { if (pick(3) > 0) image(small(2)); else back(small(2)); }
            else if (kind < 98) { count(pick(20) - 1); }
            else if (kind < 99) { end(pick(30) - 2); }
            else { at(cell(), small(5)); of(aPivot(), small(3)); status(); }
        }

        int glassCell() {
            for (int i = 0; i < 20; i++) {
                int cell = pick(64);
                if (oracle.at(cell, 0) % 3 != 0) {
                    return cell;
                }
            }
            return cell();
        }

        int pillarCell() {
            for (int i = 0; i < 40; i++) {
                int cell = pick(64);
                if (oracle.at(cell, 0) == 3) {
                    return cell;
                }
            }
            return cell();
        }

        byte[] rowBytes() {
            byte[] row = new byte[pick(12)];
            for (int i = 0; i < row.length; i++) {
                row[i] = (byte) (i == 0 ? small(8) : pick(8) == 0 ? pick(256) : pick(6));
            }
            return row;
        }

        void text(String text) {
            byte[] all = new byte[text.length()];
            for (int i = 0; i < all.length; i++) {
                all[i] = (byte) text.charAt(i);
            }
            bytes(all);
        }

        void bytes(byte[] all) {
            if (pick(10) > 0) {
                end(0);
            }
            int kept = oracle.tape.size();
            for (int at = 0; at < all.length; at += 20) {
                int[] n = new int[5];
                for (int i = 0; i < 20; i++) {
                    n[i / 4] = n[i / 4] << 8 | (at + i < all.length ? all[at + i] & 255 : 0);
                }
                feed(n[0], n[1], n[2], n[3], n[4]);
            }
            end(kept + all.length);
        }

        void due(String call, int got, int want) {
            calls.add(call + " = " + got);
            if (got != want && !wrong) {
                wrong = true;
                System.out.println("seed " + seed + ":");
                for (String each : calls) {
                    System.out.println("  " + each);
                }
                System.out.println("  the oracle answers " + want);
            }
        }

        void put(int a, int b) { due("put(" + a + ", " + b + ")", heirs.put(a, b), oracle.put(a, b)); }
        void at(int a, int b) { due("at(" + a + ", " + b + ")", heirs.at(a, b), oracle.at(a, b)); }
        void pivot(int a, int b, int c) { due("pivot(" + a + ", " + b + ", " + c + ")", heirs.pivot(a, b, c), oracle.pivot(a, b, c)); }
        void of(int a, int b) { due("of(" + a + ", " + b + ")", heirs.of(a, b), oracle.of(a, b)); }
        void turn(int a) { due("turn(" + a + ")", heirs.turn(a), oracle.turn(a)); }
        void heir(int a, int b) { due("heir(" + a + ", " + b + ")", heirs.heir(a, b), oracle.heir(a, b)); }
        void move(int a, int b) { due("move(" + a + ", " + b + ")", heirs.move(a, b), oracle.move(a, b)); }
        void undo() { due("undo()", heirs.undo(), oracle.undo()); }
        void thing(int a, int b, int c) { due("thing(" + a + ", " + b + ", " + c + ")", heirs.thing(a, b, c), oracle.thing(a, b, c)); }
        void candle(int a) { due("candle(" + a + ")", heirs.candle(a), oracle.candle(a)); }
        void terms(int a, int b) { due("terms(" + a + ", " + b + ")", heirs.terms(a, b), oracle.terms(a, b)); }
        void feed(int a, int b, int c, int d, int e) { due("feed(" + a + ", " + b + ", " + c + ", " + d + ", " + e + ")", heirs.feed(a, b, c, d, e), oracle.feed(a, b, c, d, e)); }
        void end(int a) { due("end(" + a + ")", heirs.end(a), oracle.end(a)); }
        void row() { due("row()", heirs.row(), oracle.row()); }
        void dust() { due("dust()", heirs.dust(), oracle.dust); }
        void law() { String text = oracle.tapeText(); due("law() of " + text, heirs.law(), oracle.law()); }
        void orders() { String text = oracle.tapeText(); due("orders() of " + text, heirs.orders(), oracle.orders()); }
        void fault() { due("fault()", heirs.fault(), oracle.fault); }
        void stopped() { due("stopped()", heirs.stopped(), oracle.stopped); }
        void force(int a) { due("force(" + a + ")", heirs.force(a), oracle.force(a)); }
        void ray(int a, int b, int c) { due("ray(" + a + ", " + b + ", " + c + ")", heirs.ray(a, b, c), oracle.ray(a, b, c)); }
        void glance(int a, int b) { due("glance(" + a + ", " + b + ")", heirs.glance(a, b), oracle.glance(a, b)); }
        void views(int a) { due("views(" + a + ")", heirs.views(a), oracle.views(a)); }
        void pair(int a, int b) { due("pair(" + a + ", " + b + ")", heirs.pair(a, b), oracle.pair(a, b)); }
        void claim(int a, int b, int c) { due("claim(" + a + ", " + b + ", " + c + ")", heirs.claim(a, b, c), oracle.claim(a, b, c)); }
        void owner(int a, int b) { due("owner(" + a + ", " + b + ")", heirs.owner(a, b), oracle.owner(a, b)); }
        void estate(int a) { due("estate(" + a + ")", heirs.estate(a), oracle.estate(a)); }
        void lit(int a) { due("lit(" + a + ")", heirs.lit(a), oracle.lit(a)); }
        void stand(int a, int b) { due("stand(" + a + ", " + b + ")", heirs.stand(a, b), oracle.stand(a, b)); }
        void turned(int a) { due("turned(" + a + ")", heirs.turned(a), oracle.turned(a)); }
        void hint(int a, int b) { due("hint(" + a + ", " + b + ")", heirs.hint(a, b), oracle.hint(a, b)); }
        void stranger(int a) { due("stranger(" + a + ")", heirs.stranger(a), oracle.stranger(a)); }
        void forget() { due("forget()", heirs.forget(), oracle.forget()); }
        void reveal(int a, int b, int c, int d) { due("reveal(" + a + ", " + b + ", " + c + ", " + d + ")", heirs.reveal(a, b, c, d), oracle.reveal(a, b, c, d)); }
        void hide(int a, int b, int c) { due("hide(" + a + ", " + b + ", " + c + ")", heirs.hide(a, b, c), oracle.hide(a, b, c)); }
        void hides(int a) { due("hides(" + a + ")", heirs.hides(a), oracle.hides(a)); }
        void peace(int a) { due("peace(" + a + ")", heirs.peace(a), oracle.peace(a)); }
        void quarrel(int a) { due("quarrel(" + a + ")", heirs.quarrel(a), oracle.quarrel(a)); }
        void draughts(int a, int b) { due("draughts(" + a + ", " + b + ")", heirs.draughts(a, b), oracle.draughts(a, b)); }
        void drawn(int a, int b) { due("drawn(" + a + ", " + b + ")", heirs.drawn(a, b), oracle.drawn(a, b)); }
        void image(int a) { due("image(" + a + ")", heirs.image(a), oracle.image(a)); }
        void back(int a) { due("back(" + a + ")", heirs.back(a), oracle.back(a)); }
        void count(int a) { due("count(" + a + ")", heirs.count(a), oracle.count(a)); }
        void status() { due("status()", heirs.status(), oracle.status); }

        void telling() {
            int from = cell();
            int cell = cell();
            int told = pick(3) == 0 || from < 0 || from > 63 || cell < 0 || cell > 63 ? small(8) - 1 : oracle.glance(from, cell);
            due("telling(" + from + ", " + cell + ", " + told + ")", heirs.telling(from, cell, told), oracle.telling(from, cell, told));
        }
    }

    /** Writes texts of both languages, some with something wrong in them. */
    static final class Writer {
        final Random random;
        final boolean law;
        int depth;
        boolean rich;

        Writer(Random random, boolean law) {
            this.random = random;
            this.law = law;
        }

        String text() {
            StringBuilder text = new StringBuilder();
            int lines = random.nextInt(15) == 0 ? 10 + random.nextInt(5) : 1 + random.nextInt(4);
            rich = random.nextInt(5) == 0;
            for (int i = 0; i < lines; i++) {
                text.append(i == 0 ? "" : blank() + ";" + blank()).append(law ? clause() : order());
            }
            if (random.nextInt(8) == 0) {
                spoil(text);
            }
            if (random.nextInt(6) == 0) {
                text.append("   ");
            }
            return text.substring(0, Math.min(400, text.length()));
        }

        void spoil(StringBuilder text) {
            int at = random.nextInt(text.length() + 1);
            switch (random.nextInt(4)) {
                case 0: text.setLength(at); break;
                case 1: text.insert(at, " " + "()[];+-*/%<>=nA\n".charAt(random.nextInt(16)) + " "); break;
                case 2: text.insert(at, new String[] {" and ", " if ", " 1001 ", " x ", " times 21 ", " sees 6 0 ", " ((((((((( "}[random.nextInt(7)]); break;
                default: if (at < text.length()) text.deleteCharAt(at); break;
            }
        }

        String blank() {
            return random.nextInt(3) == 0 ? "" : random.nextInt(8) == 0 ? "  " : " ";
        }

        String clause() {
            int verb = random.nextInt(5);
            String head = verb < 3 ? "claims " + sum() : verb == 3 ? "fogs" : "bars";
            return head + (verb == 3 || verb == 4 || random.nextInt(2) == 0 ? " if " + test() : "");
        }

        String order() {
            int verb = random.nextInt(5);
            String head = verb < 2 ? "turn " + (random.nextInt(3) > 0 ? "" + random.nextInt(4) : sum())
                    : verb < 4 ? "move " + random.nextInt(4) + " to " + (random.nextInt(3) > 0 ? "" + random.nextInt(64) : sum()) : "wait";
            return head + (random.nextInt(4) == 0 ? " times " + random.nextInt(8) : "")
                    + (random.nextInt(3) == 0 ? " if " + test() : "");
        }

        String test() {
            String test = both();
            for (int i = more(); i > 0; i--) {
                test += " or " + both();
            }
            return test;
        }

        int more() {
            return rich && random.nextInt(3) == 0 ? 1 + random.nextInt(2) : random.nextInt(4) / 3;
        }

        String both() {
            String test = plain();
            for (int i = more(); i > 0; i--) {
                test += " and " + plain();
            }
            return test;
        }

        String plain() {
            int sort = random.nextInt(8);
            if (sort == 0) {
                return "not " + plain();
            }
            if (sort == 1 && depth < 9) {
                depth++;
                String test = "(" + blank() + test() + blank() + ")";
                depth--;
                return test;
            }
            return sum() + blank() + "<>=".charAt(random.nextInt(3)) + blank() + sum();
        }

        String sum() {
            String sum = term();
            for (int i = random.nextInt(4) / 3; i > 0; i--) {
                sum += blank() + "+-".charAt(random.nextInt(2)) + blank() + term();
            }
            return sum;
        }

        String term() {
            String term = part();
            for (int i = rich && random.nextInt(6) == 0 ? 3 : random.nextInt(4) / 3; i > 0; i--) {
                term += blank() + "*/%".charAt(random.nextInt(3)) + blank() + part();
            }
            return term;
        }

        String part() {
            int sort = random.nextInt(10);
            if (sort < 4) {
                return "" + (random.nextInt(12) == 0 ? 1000 : random.nextInt(10));
            }
            if (sort == 4 && depth < 9) {
                depth++;
                String sum = "[" + blank() + sum() + "]";
                depth--;
                return sum;
            }
            if (law) {
                return new String[] {"x", "y", "glance", "hour", "heir", "age", "thing", "worth", "high", "lit"}[random.nextInt(10)];
            }
            switch (random.nextInt(6)) {
                case 0: return "hour";
                case 1: return "pivots";
                case 2: return "done";
                case 3: return "rent";
                case 4: return "estate " + random.nextInt(random.nextInt(15) == 0 ? 8 : 4);
                default: return "sees " + random.nextInt(5) + " " + random.nextInt(random.nextInt(15) == 0 ? 14 : 9);
            }
        }
    }

    /** A text as tokens, checked by a table and a stack of what is still expected. */
    static final class Grammar {
        final List<String> tokens = new ArrayList<>();
        final List<Integer> starts = new ArrayList<>();
        final boolean law;
        final int fault;

        Grammar(String text, boolean law) {
            this.law = law;
            int at = 0;
            while (at < text.length()) {
                int from = at;
                char c = text.charAt(at++);
                if (c == ' ') {
                    continue;
                }
                while (at < text.length() && sort(c) < 2 && sort(text.charAt(at)) == sort(c)) {
                    at++;
                }
                tokens.add(text.substring(from, at));
                starts.add(from);
            }
            tokens.add("END");
            starts.add(text.length());
            int bad = firstBad();
            fault = bad == NONE ? NONE : starts.get(bad);
        }

        static int sort(char c) {
            return c >= 'a' && c <= 'z' ? 0 : c >= '0' && c <= '9' ? 1 : 2;
        }

        int firstBad() {
            Deque<String> due = new ArrayDeque<>();
            push(due, law ? "CLAUSE MORE END" : "ORDER MORE END");
            int lines = 1;
            int parts = 0;
            int open = 0;
            int at = 0;
            while (!due.isEmpty()) {
                String top = due.pop();
                String token = tokens.get(at);
                boolean upper = top.equals("END") || !Character.isUpperCase(top.charAt(0));
                if (top.charAt(0) == '#') {
                    if (!isNumber(token, top)) {
                        return at;
                    }
                    at++;
                } else if (upper) {
                    if (!top.equals(token)) {
                        return at;
                    }
                    at++;
                    open += token.equals("(") || token.equals("[") ? 1 : token.equals(")") || token.equals("]") ? -1 : 0;
                    if (open > 8) {
                        return at - 1;
                    }
                    if (token.equals(";") && ++lines > 12) {
                        return at;
                    }
                } else {
                    String rule = rule(top, token);
                    if (rule == null) {
                        return at;
                    }
                    if (top.equals("PART") && !token.equals("[") && ++parts > 50) {
                        return at;
                    }
                    push(due, rule);
                }
            }
            return NONE;
        }

        static boolean isNumber(String token, String range) {
            if (sort(token.charAt(0)) != 1) {
                return false;
            }
            String[] ends = range.substring(1).split(":");
            java.math.BigInteger value = new java.math.BigInteger(token);
            return value.compareTo(new java.math.BigInteger(ends[0])) >= 0 && value.compareTo(new java.math.BigInteger(ends[1])) <= 0;
        }

        static void push(Deque<String> due, String rule) {
            String[] symbols = rule.trim().split(" ");
            for (int i = symbols.length - 1; i >= 0; i--) {
                if (!symbols[i].isEmpty()) {
                    due.push(symbols[i]);
                }
            }
        }

        String rule(String top, String token) {
            switch (top) {
                case "MORE": return token.equals(";") ? (law ? "; CLAUSE MORE" : "; ORDER MORE") : "";
                case "CLAUSE":
                    return token.equals("claims") ? "claims SUM IF" : token.equals("fogs") || token.equals("bars") ? token + " IF" : null;
                case "ORDER":
                    return token.equals("turn") ? "turn SUM OFTEN IF" : token.equals("move") ? "move SUM to SUM OFTEN IF" : token.equals("wait") ? "wait OFTEN IF" : null;
                case "OFTEN": return token.equals("times") ? "times #1:20" : "";
                case "IF": return token.equals("if") ? "if TEST" : "";
                case "TEST": return "BOTH ORS";
                case "ORS": return token.equals("or") ? "or BOTH ORS" : "";
                case "BOTH": return "PLAIN ANDS";
                case "ANDS": return token.equals("and") ? "and PLAIN ANDS" : "";
                case "PLAIN": return token.equals("not") ? "not PLAIN" : token.equals("(") ? "( TEST )" : "SUM SIGN SUM";
                case "SIGN": return token.equals("<") || token.equals(">") || token.equals("=") ? token : null;
                case "SUM": return "TERM ADDS";
                case "ADDS": return token.equals("+") || token.equals("-") ? token + " TERM ADDS" : "";
                case "TERM": return "PART FACTORS";
                case "FACTORS": return token.equals("*") || token.equals("/") || token.equals("%") ? token + " PART FACTORS" : "";
                default: return part(token);
            }
        }

        String part(String token) {
            if (token.equals("[")) {
                return "[ SUM ]";
            }
            if (sort(token.charAt(0)) == 1) {
                return isNumber(token, "#0:1000") ? "#0:1000" : null;
            }
            if (law) {
                return Arrays.asList("x", "y", "glance", "hour", "heir", "age", "thing", "worth", "high", "lit").contains(token) ? token : null;
            }
            return Arrays.asList("hour", "pivots", "done", "rent").contains(token) ? token
                    : token.equals("estate") ? "estate #0:5" : token.equals("sees") ? "sees #0:5 #0:11" : null;
        }
    }

    static final class Broken extends RuntimeException {
        private static final long serialVersionUID = 1L;
    }

    interface Words {
        long get(String word, int first, int second);
    }

    /** Reads and works out at once: tokens are walked again for every question; skip is set where nothing is asked. */
    static final class Asker {
        final List<String> tokens;
        final Words words;
        int at;

        Asker(List<String> tokens, int at, Words words) {
            this.tokens = tokens;
            this.at = at;
            this.words = words;
        }

        boolean take(String token) {
            if (tokens.get(at).equals(token)) {
                at++;
                return true;
            }
            return false;
        }

        boolean test(boolean skip) {
            boolean so = both(skip);
            while (take("or")) {
                boolean other = both(skip || so);
                so = so || other;
            }
            return so;
        }

        boolean both(boolean skip) {
            boolean so = plain(skip);
            while (take("and")) {
                boolean other = plain(skip || !so);
                so = so && other;
            }
            return so;
        }

        boolean plain(boolean skip) {
            if (take("not")) {
                return !plain(skip);
            }
            if (take("(")) {
                boolean so = test(skip);
                take(")");
                return so;
            }
            long left = sum(skip);
            String sign = tokens.get(at++);
            long right = sum(skip);
            return sign.equals("<") ? left < right : sign.equals(">") ? left > right : left == right;
        }

        long sum(boolean skip) {
            long value = term(skip);
            while (tokens.get(at).equals("+") || tokens.get(at).equals("-")) {
                boolean plus = tokens.get(at++).equals("+");
                long other = term(skip);
                value = checked(plus ? value + other : value - other, skip);
            }
            return value;
        }

        long term(boolean skip) {
            long value = part(skip);
            while (tokens.get(at).equals("*") || tokens.get(at).equals("/") || tokens.get(at).equals("%")) {
                String sign = tokens.get(at++);
                long other = part(skip);
                if (!sign.equals("*") && other == 0 && !skip) {
                    throw new Broken();
                }
                value = checked(skip ? 0 : sign.equals("*") ? value * other : sign.equals("/") ? value / other : value % other, skip);
            }
            return value;
        }

        static long checked(long value, boolean skip) {
            if (!skip && Math.abs(value) > 1000000000L) {
                throw new Broken();
            }
            return skip ? 0 : value;
        }

        long part(boolean skip) {
            if (take("[")) {
                long value = sum(skip);
                take("]");
                return value;
            }
            String token = tokens.get(at++);
            if (Character.isDigit(token.charAt(0))) {
                return Long.parseLong(token);
            }
            int first = token.equals("estate") || token.equals("sees") ? Integer.parseInt(tokens.get(at++)) : 0;
            int second = token.equals("sees") ? Integer.parseInt(tokens.get(at++)) : 0;
            return words.get(token, first, second);
        }
    }

    /** What an image keeps. */
    static final class State {
        int[] kinds = new int[64];
        List<int[]> pivots = new ArrayList<>();
        List<int[]> heirs = new ArrayList<>();
        List<int[]> things = new ArrayList<>();
        List<Integer> candles = new ArrayList<>();
        int[] terms = {3, 0, 2};
        List<List<String>> laws = new ArrayList<>();
        int force = NONE;
        List<int[]> tellings = new ArrayList<>();
        List<int[]> hints = new ArrayList<>();

        State copy() {
            State s = new State();
            s.kinds = kinds.clone();
            s.pivots = rows(pivots);
            s.heirs = rows(heirs);
            s.things = rows(things);
            s.candles = new ArrayList<>(candles);
            s.terms = terms.clone();
            s.laws = new ArrayList<>(laws);
            s.force = force;
            s.tellings = rows(tellings);
            s.hints = rows(hints);
            return s;
        }

        static List<int[]> rows(List<int[]> from) {
            List<int[]> all = new ArrayList<>();
            for (int[] row : from) {
                all.add(row.clone());
            }
            return all;
        }
    }

    static final class Oracle {
        State s = new State();
        final State[] images = new State[2];
        final List<Integer> tape = new ArrayList<>();
        List<int[]> undoable = new ArrayList<>();
        final TreeMap<Integer, Integer> refusals = new TreeMap<>();
        int status;
        int dust;
        int fault = NONE;
        int stopped = NONE;
        List<int[]> drawn = new ArrayList<>();

        int no(int by) {
            status = by;
            refusals.merge(by, 1, Integer::sum);
            return by;
        }

        int yes(int answer) {
            status = 0;
            return answer;
        }

        static boolean cellOk(int cell) {
            return cell >= 0 && cell <= 63;
        }

        static boolean in(int n, int least, int most) {
            return least <= n && n <= most;
        }

        boolean heirAt(int cell) {
            return s.heirs.stream().anyMatch(h -> h[0] == cell);
        }

        int put(int cell, int kind) {
            if (!cellOk(cell) || !in(kind, 0, 5)) return no(-1);
            if (kind != 0 && heirAt(cell)) return no(-3);
            int was = s.kinds[cell];
            s.kinds[cell] = kind;
            s.pivots.removeIf(p -> p[0] == cell);
            undoable.clear();
            return yes(was);
        }

        static int index(List<int[]> rows, int cell) {
            for (int i = 0; i < rows.size(); i++) {
                if (rows.get(i)[0] == cell) return i;
            }
            return NONE;
        }

        int at(int cell, int what) {
            if (!cellOk(cell)) return NONE;
            return what == 0 ? s.kinds[cell] : what == 1 ? index(s.pivots, cell) : what == 2 ? index(s.heirs, cell)
                    : what == 3 ? index(s.things, cell) : what == 4 ? s.candles.indexOf(cell) : NONE;
        }

        int pivot(int cell, int owner, int price) {
            if (!cellOk(cell) || !in(owner, -1, 5) || !in(price, 0, 99)) return no(-1);
            if (s.kinds[cell] % 3 == 0 || index(s.pivots, cell) != NONE) return no(-3);
            if (s.pivots.size() == 8) return no(-5);
            s.pivots.add(new int[] {cell, owner, price});
            return yes(s.pivots.size() - 1);
        }

        int of(int pivot, int what) {
            return in(pivot, 0, s.pivots.size() - 1) && in(what, 0, 2) ? s.pivots.get(pivot)[what] : NONE;
        }

        void flip(int pivot) {
            int cell = s.pivots.get(pivot)[0];
            s.kinds[cell] = new int[] {0, 2, 1, 3, 5, 4}[s.kinds[cell]];
        }

        void note(int... deed) {
            undoable.add(deed);
            if (undoable.size() > 16) undoable.remove(0);
        }

        int turn(int pivot) {
            if (!in(pivot, 0, s.pivots.size() - 1)) return no(-2);
            flip(pivot);
            note(0, pivot);
            return yes(s.kinds[s.pivots.get(pivot)[0]]);
        }

        int heir(int cell, int age) {
            if (!cellOk(cell) || !in(age, 0, 99)) return no(-1);
            if (s.kinds[cell] != 0) return no(-3);
            if (s.heirs.size() == 6) return no(-5);
            s.heirs.add(new int[] {cell, age});
            return yes(s.heirs.size() - 1);
        }

        int move(int heir, int cell) {
            if (!cellOk(cell)) return no(-1);
            if (!in(heir, 0, s.heirs.size() - 1)) return no(-2);
            if (s.kinds[cell] != 0) return no(-3);
            int from = s.heirs.get(heir)[0];
            note(1, heir, from);
            s.heirs.get(heir)[0] = cell;
            return yes(from);
        }

        int undo() {
            if (undoable.isEmpty()) return no(-3);
            int[] deed = undoable.remove(undoable.size() - 1);
            if (deed[0] == 0) flip(deed[1]);
            else s.heirs.get(deed[1])[0] = deed[2];
            return yes(deed[0]);
        }

        int thing(int cell, int worth, int high) {
            if (!cellOk(cell) || !in(worth, 1, 99) || !in(high, 0, 9)) return no(-1);
            if (s.things.size() == 12) return no(-5);
            s.things.add(new int[] {cell, worth, high});
            return yes(s.things.size() - 1);
        }

        int candle(int cell) {
            if (!cellOk(cell)) return no(-1);
            if (s.candles.size() == 4) return no(-5);
            s.candles.add(cell);
            return yes(s.candles.size() - 1);
        }

        int terms(int what, int value) {
            if (!in(what, 0, 2) || !in(value, what == 0 ? 1 : 0, what == 0 ? 6 : what == 1 ? 23 : 10)) return no(-1);
            int was = s.terms[what];
            s.terms[what] = value;
            return yes(was);
        }

        int feed(int... numbers) {
            if (tape.size() > 380) return NONE;
            for (int n : numbers) {
                tape.add(n >>> 24);
                tape.add(n >>> 16 & 255);
                tape.add(n >>> 8 & 255);
                tape.add(n & 255);
            }
            return tape.size();
        }

        int end(int n) {
            if (!in(n, 0, tape.size())) return NONE;
            while (tape.size() > n) tape.remove(tape.size() - 1);
            return n;
        }

        String tapeText() {
            StringBuilder text = new StringBuilder();
            for (int b : tape) text.append((char) b);
            return text.toString();
        }

        int row() {
            List<Integer> row = new ArrayList<>(tape);
            tape.clear();
            if (row.isEmpty() || row.get(0) > 7) return no(-6);
            int told = 0;
            int lost = 0;
            for (int i = 1; i < row.size(); i++) {
                int cell = 8 * row.get(0) + i - 1;
                if (i > 8 || row.get(i) > 5 || row.get(i) != 0 && heirAt(cell)) {
                    lost++;
                } else {
                    told++;
                    s.kinds[cell] = row.get(i);
                    s.pivots.removeIf(p -> p[0] == cell);
                }
            }
            dust = lost;
            undoable.clear();
            return yes(told);
        }

        int law() {
            String text = tapeText();
            tape.clear();
            if (s.laws.size() == 6) return no(-5);
            Grammar grammar = new Grammar(text, true);
            fault = grammar.fault;
            if (fault != NONE) return no(-6);
            s.laws.add(grammar.tokens);
            return yes(s.laws.size() - 1);
        }

        int force(int law) {
            if (law != NONE && !in(law, 0, s.laws.size() - 1)) return no(-2);
            int was = s.force;
            s.force = law;
            return yes(was);
        }

        /** Walks a law clause by clause; answers whether the verb holds, and what the last "claims" told. */
        int ask(String verb, Words words) {
            int told = verb.equals("claims") ? 1 : 0;
            if (s.force == NONE) return told;
            List<String> tokens = s.laws.get(s.force);
            int at = 0;
            while (at < tokens.size() - 1) {
                int to = at;
                while (!tokens.get(to).equals(";") && !tokens.get(to).equals("END")) to++;
                if (tokens.get(at).equals(verb)) {
                    try {
                        Asker asker = new Asker(tokens, at + 1, words);
                        long value = verb.equals("claims") ? asker.sum(false) : 1;
                        if (!asker.take("if") || asker.test(false)) {
                            told = (int) Math.max(0, Math.min(999, value));
                        }
                    } catch (Broken e) {
                        // this clause does not hold
                    }
                }
                at = to + 1;
            }
            return told;
        }

        boolean fogged(int cell, int glance) {
            return ask("fogs", (word, a, b) -> word.equals("x") ? cell % 8 : word.equals("y") ? cell / 8
                    : word.equals("glance") ? glance : word.equals("hour") ? s.terms[1] : -1) == 1;
        }

        static int next(int cell, int direction) {
            int x = cell % 8 + new int[] {0, 1, 0, -1}[direction];
            int y = cell / 8 + new int[] {-1, 0, 1, 0}[direction];
            return x < 0 || x > 7 || y < 0 || y > 7 ? NONE : 8 * y + x;
        }

        static int bend(int kind, int direction) {
            return (kind == 1 || kind == 4 ? new int[] {1, 0, 3, 2} : new int[] {3, 2, 1, 0})[direction];
        }

        void follow(int from, int direction, int glance, int[] seen) {
            for (int cell = next(from, direction); cell != NONE; cell = next(cell, direction)) {
                if (seen[cell] == NONE || seen[cell] > glance) seen[cell] = glance;
                int kind = s.kinds[cell];
                if (kind == 3) return;
                if (kind == 0) continue;
                if (glance < s.terms[0] && !fogged(cell, glance)) follow(cell, bend(kind, direction), glance + 1, seen);
                if (kind < 3) return;
            }
        }

        int[] look(int from) {
            int[] seen = new int[64];
            Arrays.fill(seen, NONE);
            for (int d = 0; d < 4; d++) follow(from, d, 1, seen);
            seen[from] = 0;
            return seen;
        }

        int ray(int cell, int direction, int i) {
            if (!cellOk(cell) || !in(direction, 0, 3)) return NONE;
            List<Integer> come = new ArrayList<>();
            int glance = 1;
            int d = direction;
            for (int at = next(cell, d); at != NONE; at = next(at, d)) {
                come.add(at);
                if (s.kinds[at] == 3) break;
                if (s.kinds[at] != 0) {
                    if (fogged(at, glance) || glance + 1 > s.terms[0]) break;
                    d = bend(s.kinds[at], d);
                    glance++;
                }
            }
            return i == NONE ? come.size() : in(i, 0, come.size() - 1) ? come.get(i) : NONE;
        }

        int glance(int from, int cell) {
            return cellOk(from) && cellOk(cell) ? look(from)[cell] : NONE;
        }

        int views(int cell) {
            if (!cellOk(cell)) return NONE;
            int[] seen = look(cell);
            int bits = 0;
            for (int t = 0; t < s.things.size(); t++) {
                if (seen[s.things.get(t)[0]] != NONE) bits += 1 << t;
            }
            return bits;
        }

        boolean isHeir(int heir) {
            return in(heir, 0, s.heirs.size() - 1);
        }

        boolean isThing(int thing) {
            return in(thing, 0, s.things.size() - 1);
        }

        int pair(int one, int other) {
            if (!isHeir(one) || !isHeir(other) || one == other) return NONE;
            int a = s.heirs.get(one)[0];
            int b = s.heirs.get(other)[0];
            return look(a)[b] != NONE && look(b)[a] != NONE ? 1 : 0;
        }

        /** Claims of all heirs to all things. */
        int[][] claims() {
            int[][] all = new int[s.heirs.size()][s.things.size()];
            int[][] looks = new int[s.heirs.size()][];
            for (int h = 0; h < looks.length; h++) looks[h] = look(s.heirs.get(h)[0]);
            for (int h = 0; h < all.length; h++) {
                boolean paired = false;
                for (int o = 0; o < all.length; o++) {
                    paired |= o != h && looks[h][s.heirs.get(o)[0]] != NONE && looks[o][s.heirs.get(h)[0]] != NONE;
                }
                for (int t = 0; t < all[h].length && !paired; t++) {
                    int[] thing = s.things.get(t);
                    int glance = looks[h][thing[0]];
                    int hh = h;
                    int tt = t;
                    Words words = (word, a, b) -> {
                        switch (word) {
                            case "x": return thing[0] % 8;
                            case "y": return thing[0] / 8;
                            case "glance": return glance;
                            case "hour": return s.terms[1];
                            case "heir": return hh;
                            case "age": return s.heirs.get(hh)[1];
                            case "thing": return tt;
                            case "worth": return thing[1];
                            case "high": return thing[2];
                            default: return lit(thing[0]) == NONE ? 0 : 1;
                        }
                    };
                    if (glance != NONE && ask("bars", words) == 0) all[h][t] = ask("claims", words);
                }
            }
            return all;
        }

        int claim(int heir, int thing, int what) {
            if (!isHeir(heir) || !isThing(thing) || !in(what, 0, 2)) return NONE;
            int[][] all = claims();
            int mine = all[heir][thing];
            int sum = 0;
            for (int[] each : all) sum += each[thing];
            if (what == 0 || mine == 0) return what == 2 ? 1 : mine;
            int common = 1;
            for (int d = 1; d <= mine; d++) {
                if (mine % d == 0 && sum % d == 0) common = d;
            }
            return what == 1 ? mine / common : sum / common;
        }

        int owner(int thing, int what) {
            if (!isThing(thing) || !in(what, 0, 1)) return NONE;
            int[][] all = claims();
            int many = 0;
            int who = NONE;
            for (int h = 0; h < all.length; h++) {
                if (all[h][thing] > 0) {
                    many++;
                    who = h;
                }
            }
            return what == 1 ? many : many == 1 ? who : NONE;
        }

        int[] estates() {
            int[][] all = claims();
            int[] estates = new int[all.length];
            for (int t = 0; t < s.things.size(); t++) {
                long sum = 0;
                for (int[] each : all) sum += each[t];
                for (int h = 0; h < all.length && sum > 0; h++) {
                    estates[h] += (int) (1000L * s.things.get(t)[1] * all[h][t] / sum);
                }
            }
            return estates;
        }

        int estate(int heir) {
            return isHeir(heir) ? estates()[heir] : NONE;
        }

        int lit(int cell) {
            if (cell == NONE) return rent(s.candles);
            if (!cellOk(cell)) return NONE;
            int best = NONE;
            for (int candle : s.candles) {
                int by = look(candle)[cell];
                if (by != NONE && (best == NONE || by < best)) best = by;
            }
            return best;
        }

        int rent(List<Integer> candles) {
            int bits = 0;
            for (int candle : candles) bits |= views(candle);
            int sum = 0;
            for (int t = 0; t < s.things.size(); t++) sum += (bits >> t & 1) * s.things.get(t)[1];
            return sum;
        }

        int stand(int n, int what) {
            if (!in(n, 1, 4) || !in(what, 0, n)) return NONE;
            int[] views = new int[64];
            for (int cell = 0; cell < 64; cell++) views[cell] = s.kinds[cell] == 0 ? views(cell) : NONE;
            int[] result = {0};
            List<Integer> first = new ArrayList<>();
            choose(n, 0, views, new ArrayList<>(), result, first);
            return what == 0 ? result[0] : first.isEmpty() ? NONE : first.get(what - 1);
        }

        void choose(int n, int from, int[] views, List<Integer> chosen, int[] result, List<Integer> first) {
            if (n == 0) {
                int sum = 0;
                for (int cell : chosen) {
                    for (int t = 0; t < 12; t++) sum += (views[cell] >> t & 1) << 2 * t;
                }
                int due = 0;
                for (int t = 0; t < s.things.size(); t++) due += 1 << 2 * t;
                // four seeing one thing carry into the next; then the plain test tells
                boolean fits = sum == due;
                for (int t = 0; t < s.things.size() && fits; t++) {
                    int seers = 0;
                    for (int cell : chosen) seers += views[cell] >> t & 1;
                    fits = seers == 1;
                }
                if (fits) {
                    if (result[0]++ == 0) first.addAll(chosen);
                }
                return;
            }
            for (int cell = from; cell < 64; cell++) {
                if (views[cell] == NONE) continue;
                chosen.add(cell);
                choose(n - 1, cell + 1, views, chosen, result, first);
                chosen.remove(chosen.size() - 1);
            }
        }

        int telling(int from, int cell, int glances) {
            if (!cellOk(from) || !cellOk(cell) || !in(glances, -1, 6)) return no(-1);
            if (s.tellings.size() == 10) return no(-5);
            s.tellings.add(new int[] {from, cell, glances});
            return yes(s.tellings.size());
        }

        void flipSet(int set) {
            for (int p = 0; p < s.pivots.size(); p++) {
                if ((set >> p & 1) == 1) flip(p);
            }
        }

        int turned(int what) {
            if (!in(what, 0, 2)) return NONE;
            List<Integer> fit = new ArrayList<>();
            for (int set = 0; set < 1 << s.pivots.size(); set++) {
                flipSet(set);
                if (s.tellings.stream().allMatch(t -> glance(t[0], t[1]) == t[2])) fit.add(set);
                flipSet(set);
            }
            return what == 0 ? fit.size() : fewest(fit, what == 2);
        }

        static int fewest(List<Integer> fit, boolean which) {
            for (int bits = 0; bits <= 8; bits++) {
                for (int set : fit) {
                    if (Integer.bitCount(set) == bits) return which ? set : bits;
                }
            }
            return NONE;
        }

        int hint(int heir, int glances) {
            if (!in(glances, -1, 6)) return no(-1);
            if (!isHeir(heir)) return no(-2);
            if (s.hints.size() == 6) return no(-5);
            s.hints.add(new int[] {heir, glances});
            return yes(s.hints.size());
        }

        int stranger(int i) {
            List<Integer> cells = new ArrayList<>();
            for (int cell = 0; cell < 64; cell++) {
                int c = cell;
                if (s.kinds[cell] == 0 && s.hints.stream().allMatch(h -> glance(s.heirs.get(h[0])[0], c) == h[1])) cells.add(cell);
            }
            return i == NONE ? cells.size() : in(i, 0, cells.size() - 1) ? cells.get(i) : NONE;
        }

        int forget() {
            int were = s.tellings.size() + s.hints.size();
            s.tellings.clear();
            s.hints.clear();
            return were;
        }

        int reveal(int heir, int thing, int g, int what) {
            if (!isHeir(heir) || !isThing(thing) || !in(what, 0, 1)) return NONE;
            int best = NONE;
            int cost = NONE;
            for (int set = 0; set < 1 << s.pivots.size(); set++) {
                flipSet(set);
                int by = glance(s.heirs.get(heir)[0], s.things.get(thing)[0]);
                flipSet(set);
                int price = 0;
                for (int p = 0; p < s.pivots.size(); p++) price += (set >> p & 1) * s.pivots.get(p)[2];
                if (by != NONE && by <= g && (best == NONE || price < cost)) {
                    best = set;
                    cost = price;
                }
            }
            return what == 0 ? cost : best;
        }

        int hide(int heir, int thing, int i) {
            if (!isHeir(heir) || !isThing(thing)) return NONE;
            int from = s.heirs.get(heir)[0];
            int to = s.things.get(thing)[0];
            if (glance(from, to) == NONE) return NONE;
            List<Integer> cells = new ArrayList<>();
            for (int cell = 0; cell < 64; cell++) {
                if (s.kinds[cell] != 0 || heirAt(cell) || index(s.things, cell) != NONE) continue;
                s.kinds[cell] = 3;
                if (glance(from, to) == NONE) cells.add(cell);
                s.kinds[cell] = 0;
            }
            return i == NONE ? cells.size() : in(i, 0, cells.size() - 1) ? cells.get(i) : NONE;
        }

        int hides(int cell) {
            if (!cellOk(cell) || s.kinds[cell] != 3) return NONE;
            int pairs = 0;
            for (int[] heir : s.heirs) {
                for (int[] thing : s.things) {
                    boolean now = glance(heir[0], thing[0]) != NONE;
                    s.kinds[cell] = 0;
                    boolean then = glance(heir[0], thing[0]) != NONE;
                    s.kinds[cell] = 3;
                    if (then && !now) pairs++;
                }
            }
            return pairs;
        }

        int[][] allEstates() {
            int[][] all = new int[1 << s.pivots.size()][];
            for (int set = 0; set < all.length; set++) {
                flipSet(set);
                all[set] = estates();
                flipSet(set);
            }
            return all;
        }

        int peace(int what) {
            if (!in(what, 0, 2)) return NONE;
            int[][] all = allEstates();
            List<Integer> fit = new ArrayList<>();
            for (int set = 0; set < all.length; set++) {
                boolean calm = true;
                for (int p = 0; p < s.pivots.size(); p++) {
                    int owner = s.pivots.get(p)[1];
                    if (isHeir(owner) && all[set ^ 1 << p][owner] > all[set][owner]) calm = false;
                }
                if (calm) fit.add(set);
            }
            return what == 2 ? fit.size() : fewest(fit, what == 1);
        }

        int quarrel(int what) {
            if (!in(what, 0, 2)) return NONE;
            int[][] all = allEstates();
            int heirs = s.heirs.size();
            int set = 0;
            int turned = 0;
            int idle = 0;
            List<String> was = new ArrayList<>();
            while (idle < heirs) {
                int who = was.size() % heirs;
                String now = set + " " + who;
                if (was.contains(now)) return what == 2 ? was.size() : NONE;
                was.add(now);
                int pivot = NONE;
                for (int p = s.pivots.size() - 1; p >= 0; p--) {
                    if (s.pivots.get(p)[1] != who || all[set ^ 1 << p][who] <= all[set][who]) continue;
                    if (pivot == NONE || all[set ^ 1 << p][who] >= all[set ^ 1 << pivot][who]) pivot = p;
                }
                idle = pivot == NONE ? idle + 1 : 0;
                if (pivot != NONE) {
                    set ^= 1 << pivot;
                    turned++;
                }
            }
            return what == 0 ? turned : what == 1 ? set : NONE;
        }

        int draughts(int seed, int n) {
            if (!in(seed, 0, 1000000) || !in(n, 0, 48)) return no(-1);
            long[] state = {seed};
            List<Integer> candles = new ArrayList<>(s.candles);
            int[] went = new int[candles.size()];
            int hour = s.terms[1];
            int sum = 0;
            for (int i = 0; i < n; i++) {
                for (int c = 0; c < candles.size(); c++) {
                    if (draw(state, 10) < s.terms[2]) {
                        int to = next(candles.get(c), draw(state, 4));
                        if (to != NONE && s.kinds[to] == 0) {
                            candles.set(c, to);
                            went[c]++;
                        }
                    }
                }
                s.terms[1] = s.terms[1] == 23 ? 0 : s.terms[1] + 1;
                sum += rent(candles);
            }
            s.terms[1] = hour;
            drawn = new ArrayList<>();
            for (int c = 0; c < went.length; c++) drawn.add(new int[] {candles.get(c), went[c]});
            return yes(sum);
        }

        static int draw(long[] state, int m) {
            state[0] = (state[0] * 1103 + 12345) % 1000003;
            return (int) (state[0] % m);
        }

        int drawn(int candle, int what) {
            return in(candle, 0, drawn.size() - 1) && in(what, 0, 1) ? drawn.get(candle)[what] : NONE;
        }

        int image(int k) {
            if (!in(k, 0, 1)) return no(-1);
            images[k] = s.copy();
            return yes(0);
        }

        int back(int k) {
            if (!in(k, 0, 1)) return no(-1);
            if (images[k] == null) return no(-2);
            s = images[k].copy();
            undoable.clear();
            return yes(0);
        }

        int count(int what) {
            int[] by = {-1, -2, -3, -5, -6};
            switch (what) {
                case 0: return s.pivots.size();
                case 1: return s.heirs.size();
                case 2: return s.things.size();
                case 3: return s.candles.size();
                case 4: return s.laws.size();
                case 5: return s.tellings.size();
                case 6: return s.hints.size();
                case 7: return undoable.size();
                case 8: return tape.size();
                case 14: return s.force;
                default:
                    return in(what, 9, 13) ? refusals.getOrDefault(by[what - 9], 0) : in(what, 15, 17) ? s.terms[what - 15] : NONE;
            }
        }

        int orders() {
            String text = tapeText();
            tape.clear();
            stopped = NONE;
            Grammar grammar = new Grammar(text, false);
            fault = grammar.fault;
            if (fault != NONE) return no(-6);
            State before = s.copy();
            List<int[]> undoBefore = new ArrayList<>(undoable);
            int[] done = {0};
            List<String> tokens = grammar.tokens;
            int order = 0;
            for (int at = 0; at < tokens.size() - 1; order++) {
                int to = at;
                int often = 1;
                int test = NONE;
                while (!tokens.get(to).equals(";") && !tokens.get(to).equals("END")) {
                    if (tokens.get(to).equals("times")) often = Integer.parseInt(tokens.get(to + 1));
                    if (tokens.get(to).equals("if")) test = to + 1;
                    to++;
                }
                for (int i = 0; i < often; i++) {
                    if (!run(tokens, at, test, done)) {
                        s = before;
                        undoable = undoBefore;
                        stopped = order;
                        return no(-3);
                    }
                }
                at = to + 1;
            }
            return yes(done[0]);
        }

        boolean run(List<String> tokens, int at, int test, int[] done) {
            Words words = (word, a, b) -> {
                switch (word) {
                    case "hour": return s.terms[1];
                    case "pivots": return s.pivots.size();
                    case "done": return done[0];
                    case "rent": return rent(s.candles);
                    case "estate": return isHeir(a) ? estate(a) : 0;
                    default: return isHeir(a) && isThing(b) ? glance(s.heirs.get(a)[0], s.things.get(b)[0]) : -1;
                }
            };
            try {
                if (test != NONE && !new Asker(tokens, test, words).test(false)) return true;
            } catch (Broken e) {
                return true;
            }
            try {
                Asker asker = new Asker(tokens, at + 1, words);
                switch (tokens.get(at)) {
                    case "wait":
                        s.terms[1] = (s.terms[1] + 1) % 24;
                        break;
                    case "turn":
                        long pivot = asker.sum(false);
                        if (pivot < 0 || pivot >= s.pivots.size()) return false;
                        flip((int) pivot);
                        note(0, (int) pivot);
                        break;
                    default:
                        long heir = asker.sum(false);
                        asker.take("to");
                        long cell = asker.sum(false);
                        if (heir < 0 || heir >= s.heirs.size() || cell < 0 || cell > 63 || s.kinds[(int) cell] != 0) return false;
                        note(1, (int) heir, s.heirs.get((int) heir)[0]);
                        s.heirs.get((int) heir)[0] = (int) cell;
                        break;
                }
            } catch (Broken e) {
                return false;
            }
            done[0]++;
            return true;
        }
    }
}
