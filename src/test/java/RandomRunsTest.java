import java.util.Random;

/** Long runs of chosen calls, the same ones each time, on the program and on the model: they must answer alike. */
public final class RandomRunsTest {
    private static final int RUNS = 150;
    private static final int CALLS = 512;
    private static final String[] WORDS = {"sitter", "bailiff", "laughed", "dead", "lady", "stranger", "temper", "fee",
        "likeness", "at", "wheat", "to", "crows", ";", "sitters", "x", "A", "\t", "1000", "00047", "31"};

    private final int run;
    private final Random random;
    private final CrowLikeness program = new CrowLikeness();
    private final Model model = new Model();

    private RandomRunsTest(int run) {
        this.run = run;
        this.random = new Random(run);
    }

    public static void main(String[] args) {
        int wrong = 0;
        for (int run = 0; run < RUNS; run++) {
            wrong += new RandomRunsTest(run).go() ? 0 : 1;
        }
        System.out.println("RandomRunsTest: " + (RUNS - wrong) + " of " + RUNS + " runs answer as the model");
        if (wrong != 0) {
            System.exit(1);
        }
    }

    private boolean go() {
        int calls = 0;
        if (run % 3 != 0) {
            calls += settle();
        }
        for (; calls < CALLS; calls++) {
            if (!step()) {
                return false;
            }
        }
        return true;
    }

    /** Most runs begin with some who are there, so that the calls behind have something to ask about. */
    private int settle() {
        int sitters = 1 + random.nextInt(6);
        int likenesses = 1 + random.nextInt(8);
        for (int s = 0; s < sitters; s++) {
            int kind = random.nextInt(6);
            int temper = 10 + random.nextInt(21);
            program.sitter(kind);
            model.sitter(kind);
            program.set(s, 1, temper);
            model.set(s, 1, temper);
        }
        for (int l = 0; l < likenesses; l++) {
            int sitter = random.nextInt(sitters);
            int cell = random.nextInt(48);
            program.likeness(sitter, cell);
            model.likeness(sitter, cell);
        }
        return 2 * sitters + likenesses;
    }

    private int pick(int least, int most) {
        switch (random.nextInt(50)) {
            case 0: return least - 1;
            case 1: return most + 1;
            case 2: return random.nextBoolean() ? Integer.MIN_VALUE : Integer.MAX_VALUE;
            case 3: return random.nextInt();
            case 4: return least;
            case 5: return most;
            default: return least + random.nextInt(Math.max(1, most - least + 1));
        }
    }

    private int sitter() {
        return pick(0, Math.max(0, program.count(0) - 1));
    }

    private int likeness() {
        return pick(0, Math.max(0, program.count(2) - 1));
    }

    private int few() {
        return random.nextInt(4) == 0 ? pick(1, 20) : pick(1, 4);
    }

    private boolean same(String call, long got, long want) {
        if (got == want) {
            return true;
        }
        System.out.println("run " + run + ": " + call + " answered " + got + ", the model " + want);
        return false;
    }

    private boolean step() {
        int which = random.nextInt(100);
        if (which < 30) {
            return change(random.nextInt(10));
        }
        if (which < 60) {
            return ask(random.nextInt(12));
        }
        if (which < 72) {
            return choose(random.nextInt(8));
        }
        if (which < 80) {
            return tell();
        }
        if (which < 94) {
            return sheets(random.nextInt(10));
        }
        return images(random.nextInt(8));
    }

    private boolean change(int which) {
        int a;
        int b;
        int c;
        switch (which) {
            case 0:
                a = pick(0, 47);
                b = pick(0, 99);
                return same("wheat " + a + " " + b, program.wheat(a, b), model.wheat(a, b));
            case 1:
                a = pick(0, 20);
                return same("crows " + a, program.crows(a), model.crows(a));
            case 2:
                a = pick(0, 5);
                return same("sitter " + a, program.sitter(a), model.sitter(a));
            case 3:
            case 4:
                a = sitter();
                b = random.nextInt(20) == 0 ? pick(0, 3) : 1 + random.nextInt(2);
                c = b == 1 ? pick(0, 30) : pick(0, 99);
                return same("set " + a + " " + b + " " + c, program.set(a, b, c), model.set(a, b, c));
            case 5:
                a = sitter();
                b = pick(0, 5);
                return same("turn " + a + " " + b, program.turn(a, b), model.turn(a, b));
            case 6:
                a = sitter();
                b = pick(0, 47);
                return same("likeness " + a + " " + b, program.likeness(a, b), model.likeness(a, b));
            case 7:
            case 8:
                a = likeness();
                b = pick(0, 2);
                c = b == 0 ? pick(0, 47) : b == 1 ? sitter() : age();
                return same("place " + a + " " + b + " " + c, program.place(a, b, c), model.place(a, b, c));
            default:
                a = random.nextInt(6) == 0 ? pick(1, 60) : pick(1, 3);
                return same("days " + a, program.days(a), model.days(a));
        }
    }

    private int age() {
        int[] tops = {9999, 10, 100, 370};
        return pick(0, tops[random.nextInt(tops.length)]);
    }

    private boolean ask(int which) {
        int a;
        int b;
        switch (which) {
            case 0:
            case 1:
                a = pick(0, 47);
                b = pick(0, 2);
                return same("cell " + a + " " + b, program.cell(a, b), model.cell(a, b));
            case 2:
                a = sitter();
                b = pick(0, 5);
                return same("of " + a + " " + b, program.of(a, b), model.of(a, b));
            case 3:
                a = sitter();
                b = pick(0, 5);
                return same("as " + a + " " + b, program.as(a, b), model.as(a, b));
            case 4:
                a = likeness();
                b = pick(0, 4);
                return same("told " + a + " " + b, program.told(a, b), model.told(a, b));
            case 5:
                a = likeness();
                b = pick(0, 12);
                return same("scares " + a + " " + b, program.scares(a, b), model.scares(a, b));
            case 6:
            case 7:
                return same("lands", program.lands(), model.lands());
            case 8:
                a = pick(0, 5);
                return same("now " + a, program.now(a), model.now(a));
            case 9:
                a = pick(0, 47);
                b = pick(0, 60);
                return same("on " + a + " " + b, program.on(a, b), model.on(a, b));
            case 10:
                a = pick(0, 60);
                return same("eaten " + a, program.eaten(a), model.eaten(a));
            default:
                a = pick(0, 47);
                return same("first " + a, program.first(a), model.first(a));
        }
    }

    private boolean choose(int which) {
        int a;
        int n = few();
        switch (which) {
            case 0:
                a = likeness();
                return same("spot " + a + " " + n, program.spot(a, n), model.spot(a, n));
            case 1:
                a = likeness();
                return same("whose " + a + " " + n, program.whose(a, n), model.whose(a, n));
            case 2:
                a = sitter();
                return same("kind " + a + " " + n, program.kind(a, n), model.kind(a, n));
            case 3:
                a = sitter();
                return same("temper " + a + " " + n, program.temper(a, n), model.temper(a, n));
            case 4:
                return same("keep " + n, program.keep(n), model.keep(n));
            case 5:
                return same("worth " + n, program.worth(n), model.worth(n));
            case 6:
                a = likeness();
                return same("apart " + a, program.apart(a), model.apart(a));
            default:
                return same("swap " + n, program.swap(n), model.swap(n));
        }
    }

    private String item() {
        int digits = random.nextInt(60);
        switch (random.nextInt(5)) {
            case 0:
                return WORDS[random.nextInt(6)] + (random.nextBoolean() ? " temper " + random.nextInt(32) : "")
                    + (random.nextBoolean() ? " fee" + random.nextInt(101) : "");
            case 1:
                return "likeness " + random.nextInt(7) + " at " + random.nextInt(49);
            case 2:
                return "wheat " + digits + " " + random.nextInt(101);
            case 3:
                return " wheat" + digits + " " + random.nextInt(100) + "to " + (digits + random.nextInt(9) - 1);
            default:
                return "crows " + random.nextInt(22) + "  ";
        }
    }

    private String text() {
        StringBuilder b = new StringBuilder(item());
        for (int more = random.nextInt(5); more > 0; more--) {
            b.append(random.nextBoolean() ? ";" : " ; ").append(item());
        }
        if (random.nextInt(3) == 0) {
            int place = random.nextInt(b.length() + 1);
            b.insert(place, WORDS[random.nextInt(WORDS.length)]);
        }
        if (random.nextInt(4) == 0 && b.length() > 0) {
            b.deleteCharAt(random.nextInt(b.length()));
        }
        if (random.nextInt(6) == 0 && b.length() > 0) {
            b.setLength(random.nextInt(b.length()));
        }
        return b.toString();
    }

    private boolean tell() {
        if (random.nextInt(12) == 0) {
            return same("wipe", program.wipe(), model.wipe());
        }
        if (random.nextInt(8) == 0) {
            int bytes = random.nextInt();
            int n = pick(1, 4);
            return same("feed " + bytes + " " + n, program.feed(bytes, n), model.feed(bytes, n));
        }
        String text = text();
        boolean isSame = true;
        for (int i = 0; i < text.length(); i++) {
            int b = text.charAt(i) | random.nextInt() << 8;
            isSame &= same("feed of " + text, program.feed(b, 1), model.feed(b, 1));
        }
        return isSame && same("plain of " + text, program.plain(), model.plain());
    }

    private int bits() {
        return random.nextInt(30) == 0 ? random.nextInt(70) : new int[] {8, 16, 64, 8, 16, 64, 0}[random.nextInt(7)];
    }

    private boolean sheets(int which) {
        int s = pick(0, 3);
        int a;
        int b;
        int n;
        switch (which) {
            case 0:
            case 1:
                a = bits();
                n = random.nextBoolean() ? pick(0, 40) : pick(0, 5);
                return same("sheet " + s + " " + a + " " + n, program.sheet(s, a, n), model.sheet(s, a, n));
            case 2:
            case 3:
                a = pick(0, 5);
                long v = random.nextInt(3) == 0 ? random.nextLong() : random.nextInt(110);
                return same("write " + s + " " + a + " " + v, program.write(s, a, v), model.write(s, a, v));
            case 4:
            case 5:
                int t = pick(0, 3);
                a = pick(0, 6);
                b = pick(0, 6);
                n = pick(0, 10);
                return same("copy " + s + " " + a + " " + t + " " + b + " " + n,
                    program.copy(s, a, t, b, n), model.copy(s, a, t, b, n));
            case 6:
                return same("lays " + s, program.lays(s), model.lays(s));
            case 7:
                return same("book " + s, program.book(s), model.book(s));
            default:
                a = likeness();
                boolean isSame = which == 8 || same("book " + s, program.book(s), model.book(s));
                return isSame && same("read " + s + " " + a, program.read(s, a), model.read(s, a));
        }
    }

    private boolean images(int which) {
        int a;
        switch (which) {
            case 0:
                return same("image", program.image(), model.image());
            case 1:
                return same("undo", program.undo(), model.undo());
            case 2:
                return same("tear", program.tear(), model.tear());
            case 3:
            case 4:
                a = pick(0, 3);
                return same("count " + a, program.count(a), model.count(a));
            default:
                a = pick(-1, 6);
                return same("status " + a, program.status(a), model.status(a));
        }
    }
}
