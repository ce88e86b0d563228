import java.util.ArrayList;
import java.util.List;
import java.util.function.Consumer;
import java.util.regex.Matcher;
import java.util.regex.Pattern;

/**
 * The document once more, told in the slowest and plainest way: every question makes a new world and lets its days go
 * one by one, and nothing is kept from one to the next. RandomRunsTest holds the program against it.
 */
final class Model {
    private static final int[] ABOVE = {-1, 0, 0, 0, 2, 3};
    private static final List<String> NAMES = List.of("sitter", "bailiff", "laughed", "dead", "lady", "stranger");

    static final class Sitter {
        int kind;
        int temper = 10;
        int fee = 5;
        int since;
    }

    static final class Likeness {
        int at;
        int of;
        int age;
    }

    static final class World {
        int[] wheat = new int[48];
        int crows = 3;
        int day;
        List<Sitter> sitters = new ArrayList<>();
        List<Likeness> likenesses = new ArrayList<>();

        World() {
            java.util.Arrays.fill(wheat, 10);
        }

        World another() {
            World w = new World();
            w.wheat = wheat.clone();
            w.crows = crows;
            w.day = day;
            for (Sitter s : sitters) {
                Sitter t = new Sitter();
                t.kind = s.kind;
                t.temper = s.temper;
                t.fee = s.fee;
                t.since = s.since;
                w.sitters.add(t);
            }
            for (Likeness l : likenesses) {
                w.stand(l.of, l.at).age = l.age;
            }
            return w;
        }

        Likeness stand(int of, int at) {
            Likeness m = new Likeness();
            m.of = of;
            m.at = at;
            likenesses.add(m);
            return m;
        }

        Sitter come(int kind) {
            Sitter s = new Sitter();
            s.kind = kind;
            s.since = day;
            sitters.add(s);
            return s;
        }

        int total() {
            int sum = 0;
            for (int w : wheat) {
                sum += w;
            }
            return sum;
        }

        int counts(Likeness l) {
            Sitter s = sitters.get(l.of);
            return fades(s.kind, s.temper, l.age);
        }

        int scares(Likeness l, int d) {
            return Model.scares(sitters.get(l.of).kind, d, counts(l));
        }

        int fear(int cell) {
            int sum = 0;
            for (int s = 0; s < sitters.size(); s++) {
                Integer most = null;
                for (Likeness l : likenesses) {
                    if (l.of == s) {
                        int here = scares(l, apart(l.at, cell));
                        most = most == null || here > most ? Integer.valueOf(here) : most;
                    }
                }
                sum += most == null ? 0 : most;
            }
            return sum;
        }

        int[] fears() {
            int[] fears = new int[48];
            for (int c = 0; c < 48; c++) {
                fears[c] = fear(c);
            }
            return fears;
        }

        int lands(int[] fears) {
            int best = -1;
            for (int c = 47; c >= 0; c--) {
                if (wheat[c] > 0 && fears[c] < 20
                        && (best < 0 || wheat[c] - fears[c] >= wheat[best] - fears[best])) {
                    best = c;
                }
            }
            return best;
        }

        int meets(int sitter) {
            int pairs = 0;
            for (int i = 0; i < likenesses.size(); i++) {
                for (int j = 0; j < i; j++) {
                    int a = likenesses.get(i).at;
                    int b = likenesses.get(j).at;
                    boolean both = likenesses.get(i).of == sitter && likenesses.get(j).of == sitter;
                    pairs += both && (a / 8 == b / 8 || a % 8 == b % 8) ? 1 : 0;
                }
            }
            return pairs;
        }

        void goes() {
            int[] fears = fears();
            for (int i = 0; i < crows; i++) {
                int c = lands(fears);
                if (c >= 0) {
                    wheat[c] = Math.max(0, wheat[c] - 2);
                }
            }
            for (int s = 0; s < sitters.size(); s++) {
                sitters.get(s).temper = Math.max(0, sitters.get(s).temper - meets(s));
            }
            for (Likeness l : likenesses) {
                l.age = Math.min(9999, l.age + 1);
            }
            day++;
        }

        World on(int n) {
            World w = another();
            for (int i = 0; i < n; i++) {
                w.goes();
            }
            return w;
        }

        int eaten(int n) {
            return total() - on(n).total();
        }
    }

    static int apart(int a, int b) {
        return Math.abs(a / 8 - b / 8) + Math.abs(a % 8 - b % 8);
    }

    static int fades(int kind, int temper, int a) {
        switch (kind) {
            case 0: return Math.max(0, temper - a / 4);
            case 1: return fades(0, temper, a) + 5;
            case 2: return fades(0, temper, a) / 2;
            case 3: return a < 365 ? temper : 0;
            case 4: return -fades(2, temper, a);
            default: return a < 7 ? fades(3, temper, a) : 0;
        }
    }

    static int scares(int kind, int d, int f) {
        switch (kind) {
            case 0: return Math.max(0, f - 3 * d);
            case 1: return Math.max(0, f - d);
            case 2: return Math.max(0, scares(0, d, f) - 1);
            case 3: return scares(0, d, f);
            case 4: return f + 2 * d < 0 ? f + 2 * d : 0;
            default: return d <= 1 ? 2 * scares(3, d, f) : scares(3, d, f);
        }
    }

    World now = new World();
    World kept;
    String tape = "";
    final long[][] sheets = new long[4][];
    final int[] bits = new int[4];
    final int[] found = new int[7];

    private int tell(int finding) {
        found[Check.BEYOND - finding]++;
        return finding;
    }

    private int beyond() {
        return tell(Check.BEYOND);
    }

    private static boolean in(int v, int least, int most) {
        return least <= v && v <= most;
    }

    private boolean noSitter(int s) {
        return !in(s, 0, now.sitters.size() - 1);
    }

    private boolean noLikeness(int l) {
        return !in(l, 0, now.likenesses.size() - 1);
    }

    private int eatenIf(int n, Consumer<World> change) {
        World w = now.another();
        change.accept(w);
        return w.eaten(n);
    }

    int wheat(int cell, int v) {
        if (!in(cell, 0, 47) || !in(v, 0, 99)) {
            return beyond();
        }
        int was = now.wheat[cell];
        now.wheat[cell] = v;
        return was;
    }

    int cell(int cell, int what) {
        if (!in(cell, 0, 47) || !in(what, 0, 2)) {
            return beyond();
        }
        int set = 0;
        for (int l = 0; l < now.likenesses.size(); l++) {
            set += now.likenesses.get(l).at == cell ? 1 << l : 0;
        }
        return what == 0 ? now.wheat[cell] : what == 1 ? 1000 + now.fear(cell) : set;
    }

    int crows(int v) {
        if (!in(v, 0, 20)) {
            return beyond();
        }
        int was = now.crows;
        now.crows = v;
        return was;
    }

    int sitter(int kind) {
        if (!in(kind, 0, 5)) {
            return beyond();
        }
        if (now.sitters.size() == 6) {
            return tell(Check.FULL);
        }
        now.come(kind);
        return now.sitters.size() - 1;
    }

    private int likenessesOf(int sitter) {
        return (int) now.likenesses.stream().filter(l -> l.of == sitter).count();
    }

    int of(int sitter, int what) {
        if (noSitter(sitter) || !in(what, 0, 5)) {
            return beyond();
        }
        Sitter s = now.sitters.get(sitter);
        return new int[] {s.kind, s.temper, s.fee, s.since, likenessesOf(sitter), now.meets(sitter)}[what];
    }

    int set(int sitter, int what, int v) {
        if (noSitter(sitter) || !in(what, 1, 2) || !in(v, 0, what == 1 ? 30 : 99)) {
            return beyond();
        }
        Sitter s = now.sitters.get(sitter);
        int was = what == 1 ? s.temper : s.fee;
        if (what == 1) {
            s.temper = v;
        } else {
            s.fee = v;
        }
        return was;
    }

    int turn(int sitter, int kind) {
        if (noSitter(sitter) || !in(kind, 0, 5)) {
            return beyond();
        }
        int was = now.sitters.get(sitter).kind;
        now.sitters.get(sitter).kind = kind;
        return was;
    }

    int as(int sitter, int kind) {
        if (noSitter(sitter) || !in(kind, 0, 5)) {
            return beyond();
        }
        for (int k = now.sitters.get(sitter).kind; k >= 0; k = ABOVE[k]) {
            if (k == kind) {
                return now.sitters.get(sitter).temper;
            }
        }
        return tell(Check.KIND);
    }

    int likeness(int sitter, int cell) {
        if (noSitter(sitter) || !in(cell, 0, 47)) {
            return beyond();
        }
        if (now.likenesses.size() == 8) {
            return tell(Check.FULL);
        }
        now.stand(sitter, cell);
        return now.likenesses.size() - 1;
    }

    int told(int likeness, int what) {
        if (noLikeness(likeness) || !in(what, 0, 4)) {
            return beyond();
        }
        Likeness l = now.likenesses.get(likeness);
        return new int[] {l.at, l.of, l.age, 1000 + now.counts(l), 1000 + now.scares(l, 0)}[what];
    }

    int place(int likeness, int what, int v) {
        if (noLikeness(likeness) || !in(what, 0, 2)) {
            return beyond();
        }
        if (!in(v, 0, new int[] {47, now.sitters.size() - 1, 9999}[what])) {
            return beyond();
        }
        int was = told(likeness, what);
        Likeness l = now.likenesses.get(likeness);
        l.at = what == 0 ? v : l.at;
        l.of = what == 1 ? v : l.of;
        l.age = what == 2 ? v : l.age;
        return was;
    }

    int scares(int likeness, int distance) {
        if (noLikeness(likeness) || !in(distance, 0, 12)) {
            return beyond();
        }
        return 1000 + now.scares(now.likenesses.get(likeness), distance);
    }

    int lands() {
        int c = now.lands(now.fears());
        return c < 0 ? tell(Check.NONE) : c;
    }

    int days(int n) {
        if (!in(n, 1, 60)) {
            return beyond();
        }
        if (now.day + n > 9999) {
            return tell(Check.STATE);
        }
        int was = now.total();
        now = now.on(n);
        return was - now.total();
    }

    int now(int what) {
        if (!in(what, 0, 5)) {
            return beyond();
        }
        int fees = 0;
        int meet = 0;
        int feared = 0;
        for (int s = 0; s < now.sitters.size(); s++) {
            fees += likenessesOf(s) > 0 ? now.sitters.get(s).fee : 0;
            meet += now.meets(s) > 0 ? 1 << s : 0;
        }
        for (int fear : now.fears()) {
            feared += fear >= 20 ? 1 : 0;
        }
        return new int[] {now.day, now.crows, now.total(), fees, feared, meet}[what];
    }

    int on(int cell, int n) {
        return in(cell, 0, 47) && in(n, 0, 60) ? now.on(n).wheat[cell] : beyond();
    }

    int eaten(int n) {
        return in(n, 0, 60) ? now.eaten(n) : beyond();
    }

    int first(int cell) {
        if (!in(cell, 0, 47)) {
            return beyond();
        }
        World w = now.another();
        for (int d = 0; d <= 60; d++) {
            if (w.wheat[cell] < now.wheat[cell]) {
                return d;
            }
            w.goes();
        }
        return tell(Check.NONE);
    }

    interface Choice {
        void make(World w, int v);
    }

    private int least(int choices, int n, Choice choice) {
        int best = 0;
        for (int v = 1; v < choices; v++) {
            int a = v;
            int b = best;
            if (eatenIf(n, w -> choice.make(w, a)) < eatenIf(n, w -> choice.make(w, b))) {
                best = v;
            }
        }
        return best;
    }

    int spot(int likeness, int n) {
        return noLikeness(likeness) || !in(n, 1, 20) ? beyond()
            : least(48, n, (w, v) -> w.likenesses.get(likeness).at = v);
    }

    int whose(int likeness, int n) {
        return noLikeness(likeness) || !in(n, 1, 20) ? beyond()
            : least(now.sitters.size(), n, (w, v) -> w.likenesses.get(likeness).of = v);
    }

    int kind(int sitter, int n) {
        return noSitter(sitter) || !in(n, 1, 20) ? beyond()
            : least(6, n, (w, v) -> w.sitters.get(sitter).kind = v);
    }

    int temper(int sitter, int n) {
        return noSitter(sitter) || !in(n, 1, 20) ? beyond()
            : least(31, n, (w, v) -> w.sitters.get(sitter).temper = v);
    }

    int keep(int n) {
        if (!in(n, 1, 10)) {
            return beyond();
        }
        int all = now.eaten(n);
        int best = -1;
        for (int set = 0; set < 1 << now.likenesses.size(); set++) {
            int only = set;
            boolean isFewer = best < 0 || Integer.bitCount(set) < Integer.bitCount(best);
            if (isFewer && eatenIf(n, w -> leave(w, only)) <= all) {
                best = set;
            }
        }
        return best;
    }

    private static void leave(World w, int set) {
        List<Likeness> left = new ArrayList<>();
        for (int l = 0; l < w.likenesses.size(); l++) {
            if ((set & 1 << l) != 0) {
                left.add(w.likenesses.get(l));
            }
        }
        w.likenesses = left;
    }

    int worth(int n) {
        if (!in(n, 1, 20)) {
            return beyond();
        }
        int most = now.eaten(n);
        int best = -1;
        for (int s = 0; s < now.sitters.size(); s++) {
            int gone = s;
            int eaten = eatenIf(n, w -> w.likenesses.removeIf(l -> l.of == gone));
            if (eaten > most) {
                most = eaten;
                best = s;
            }
        }
        return best < 0 ? tell(Check.NONE) : best;
    }

    int apart(int likeness) {
        if (noLikeness(likeness)) {
            return beyond();
        }
        Likeness l = now.likenesses.get(likeness);
        int best = -1;
        long bestRank = Long.MAX_VALUE;
        for (int c = 0; c < 48; c++) {
            World w = now.another();
            w.likenesses.get(likeness).at = c;
            long rank = w.meets(l.of) * 10000L + apart(l.at, c) * 100L + c;
            if (rank < bestRank) {
                bestRank = rank;
                best = c;
            }
        }
        return best;
    }

    int swap(int n) {
        if (!in(n, 1, 20)) {
            return beyond();
        }
        int least = now.eaten(n);
        int best = -1;
        for (int pair = 0; pair < 80; pair++) {
            int i = pair / 10;
            int j = pair % 10;
            if (i < j && j < now.likenesses.size()) {
                int eaten = eatenIf(n, w -> {
                    w.likenesses.get(i).at = now.likenesses.get(j).at;
                    w.likenesses.get(j).at = now.likenesses.get(i).at;
                });
                if (eaten < least) {
                    least = eaten;
                    best = pair;
                }
            }
        }
        return best < 0 ? tell(Check.NONE) : best;
    }

    int feed(int bytes, int n) {
        if (!in(n, 1, 4)) {
            return beyond();
        }
        if (tape.length() + n > 120) {
            return tell(Check.FULL);
        }
        for (int i = n; i > 0; i--) {
            tape += (char) (bytes >>> 8 * (i - 1) & 255);
        }
        return tape.length();
    }

    int wipe() {
        int had = tape.length();
        tape = "";
        return had;
    }

    private static final Pattern TOKEN = Pattern.compile(" *([a-z]+|[0-9]+|;|[^ ])");

    private final List<String> tokens = new ArrayList<>();
    private final List<Integer> places = new ArrayList<>();
    private int at;

    private static final class Fault extends Exception {
        private static final long serialVersionUID = 1L;
    }

    private int number(int least, int most) throws Fault {
        String t = tokens.get(at);
        if (!t.matches("[0-9]+") || new java.math.BigInteger(t).bitLength() > 10) {
            throw new Fault();
        }
        int v = Integer.parseInt(t);
        if (!in(v, least, most)) {
            throw new Fault();
        }
        at++;
        return v;
    }

    private boolean isNext(String word) {
        if (!tokens.get(at).equals(word)) {
            return false;
        }
        at++;
        return true;
    }

    private void item(World w) throws Fault {
        String word = tokens.get(at);
        if (NAMES.contains(word) && w.sitters.size() < 6) {
            at++;
            Sitter s = w.come(NAMES.indexOf(word));
            s.temper = isNext("temper") ? number(0, 30) : s.temper;
            s.fee = isNext("fee") ? number(0, 99) : s.fee;
        } else if (word.equals("likeness") && w.likenesses.size() < 8) {
            at++;
            int of = number(0, w.sitters.size() - 1);
            if (!isNext("at")) {
                throw new Fault();
            }
            w.stand(of, number(0, 47));
        } else if (word.equals("wheat")) {
            at++;
            int from = number(0, 47);
            int v = number(0, 99);
            int to = isNext("to") ? number(from, 47) : from;
            java.util.Arrays.fill(w.wheat, from, to + 1, v);
        } else if (word.equals("crows")) {
            at++;
            w.crows = number(0, 20);
        } else {
            throw new Fault();
        }
    }

    int plain() {
        tokens.clear();
        places.clear();
        Matcher m = TOKEN.matcher(tape);
        while (m.find()) {
            tokens.add(m.group(1));
            places.add(m.start(1));
        }
        tokens.add("(end)");
        places.add(tape.length());
        tape = "";
        at = 0;
        World w = now.another();
        try {
            for (int items = 1;; items++) {
                item(w);
                if (tokens.get(at).equals("(end)")) {
                    now = w;
                    return items;
                }
                if (!tokens.get(at).equals(";")) {
                    return -1 - places.get(at);
                }
                at++;
            }
        } catch (Fault f) {
            return -1 - places.get(at);
        }
    }

    int sheet(int s, int width, int n) {
        if (!in(s, 0, 3) || !List.of(0, 8, 16, 64).contains(width)) {
            return beyond();
        }
        if (n < 0) {
            return tell(Check.SIZE);
        }
        if (n > 40) {
            return beyond();
        }
        bits[s] = width;
        sheets[s] = width == 0 ? null : new long[n];
        return width == 0 ? 0 : n;
    }

    private long cut(int s, long v) {
        return v << 64 - bits[s] >> 64 - bits[s];
    }

    long write(int s, int i, long v) {
        if (!in(s, 0, 3)) {
            return beyond();
        }
        if (sheets[s] == null) {
            return tell(Check.MISSING);
        }
        if (!in(i, 0, sheets[s].length - 1)) {
            return beyond();
        }
        long was = sheets[s][i];
        sheets[s][i] = cut(s, v);
        return was;
    }

    int copy(int s, int from, int t, int to, int n) {
        if (!in(s, 0, 3) || !in(t, 0, 3)) {
            return beyond();
        }
        if (sheets[s] == null || sheets[t] == null) {
            return tell(Check.MISSING);
        }
        if (bits[s] != bits[t]) {
            return tell(Check.KIND);
        }
        if (from < 0 || to < 0 || n < 0 || (long) from + n > sheets[s].length || (long) to + n > sheets[t].length) {
            return beyond();
        }
        long[] were = sheets[s].clone();
        for (int i = 0; i < n; i++) {
            sheets[t][to + i] = were[from + i];
        }
        return n;
    }

    int lays(int s) {
        if (!in(s, 0, 3)) {
            return beyond();
        }
        if (sheets[s] == null) {
            return tell(Check.MISSING);
        }
        int came = 0;
        for (int i = 0; i < sheets[s].length; i++) {
            long v = sheets[s][i];
            if (v == Math.max(0, Math.min(99, v))) {
                now.wheat[i] = (int) v;
                came++;
            }
        }
        return came;
    }

    int book(int s) {
        if (!in(s, 0, 3)) {
            return beyond();
        }
        if (sheets[s] == null) {
            return tell(Check.MISSING);
        }
        for (int i = 0; i < sheets[s].length; i++) {
            sheets[s][i] = cut(s, now.on(i).total());
        }
        return sheets[s].length;
    }

    int read(int s, int likeness) {
        if (!in(s, 0, 3)) {
            return beyond();
        }
        if (sheets[s] == null) {
            return tell(Check.MISSING);
        }
        if (noLikeness(likeness)) {
            return beyond();
        }
        int pairs = 0;
        for (int of = 0; of < now.sitters.size(); of++) {
            for (int c = 0; c < 48; c++) {
                World w = now.another();
                w.likenesses.get(likeness).of = of;
                w.likenesses.get(likeness).at = c;
                boolean isSo = true;
                for (int i = 0; i < sheets[s].length && isSo; i++) {
                    isSo = sheets[s][i] == w.total();
                    w.goes();
                }
                pairs += isSo ? 1 : 0;
            }
        }
        return pairs;
    }

    int image() {
        kept = now.another();
        return 1;
    }

    int undo() {
        if (kept == null) {
            return tell(Check.NONE);
        }
        now = kept.another();
        return now.sitters.size();
    }

    int tear() {
        int was = kept == null ? 0 : 1;
        kept = null;
        return was;
    }

    int count(int what) {
        int tempers = 0;
        for (Sitter s : now.sitters) {
            tempers += s.temper;
        }
        return in(what, 0, 3)
            ? new int[] {now.sitters.size(), tape.length(), now.likenesses.size(), tempers}[what] : beyond();
    }

    int status(int which) {
        if (which == -1) {
            return java.util.Arrays.stream(found).sum();
        }
        return in(which, 0, 6) ? found[which] : beyond();
    }
}
