import java.util.Random;

/** All promises: runs of calls by chance, the same each time, each answer compared with the model's. */
public final class RandomTest {
    private static final int[] ODD = {-1, 0, -2, 6, 7, 64, 400, 401, Integer.MAX_VALUE, Integer.MIN_VALUE};

    private final Check check;
    private final Random random;
    private final Texts texts;
    private final GaugeWall wall = new GaugeWall();
    private final WallModel model = new WallModel();
    private final String run;
    private int calls;

    private RandomTest(Check check, long seed) {
        this.check = check;
        random = new Random(seed);
        texts = new Texts(random);
        run = "run " + seed + ": ";
    }

    public static void main(String[] args) {
        Check check = new Check("RandomTest");
        int first = args.length > 0 ? Integer.parseInt(args[0]) : 0;
        int runs = args.length > 1 ? Integer.parseInt(args[1]) : 600;
        for (int seed = first; seed < first + runs; seed++) {
            new RandomTest(check, seed).go();
        }
        texts(check, first, runs * 25);
        check.finish();
    }

    private static void texts(Check check, int seed, int number) {
        Texts texts = new Texts(new Random(seed));
        for (int n = 0; n < number; n++) {
            String text = texts.any();
            TextModel due = new TextModel(text);
            check.dueFault(text, due.fault, due.place);
        }
    }

    private void go() {
        readText(texts.sound(6, 4));
        int mostTicks = random.nextInt(3) == 0 ? 30 : 10;
        while (calls < Run.MOST_CALLS) {
            call(mostTicks);
        }
    }

    private int some(int bound) {
        return random.nextInt(25) == 0 ? ODD[random.nextInt(ODD.length)] : random.nextInt(bound);
    }

    private void due(String call, long got, long want) {
        calls++;
        if (calls <= Run.MOST_CALLS) {
            check.due(run + call, got, want);
        }
    }

    private void due(String call, boolean got, boolean want) {
        due(call, got ? 1 : 0, want ? 1 : 0);
    }

    private void readText(String text) {
        for (int start = 0; start < text.length(); start += 20) {
            int[] words = Check.words(text, start);
            due("feed", wall.feed(words[0], words[1], words[2], words[3], words[4]), model.feed(words));
        }
        int tooMany = (20 - text.length() % 20) % 20;
        due("back", wall.back(tooMany), model.back(tooMany));
        due("read", wall.read(), model.read());
        due("place", wall.place(), model.place());
    }

    private void call(int mostTicks) {
        int k = some(7);
        switch (random.nextInt(24)) {
            case 0: tell(); break;
            case 1: source(); break;
            case 2: case 3: fact(mostTicks); break;
            case 4: down(mostTicks); break;
            case 5: case 6: case 7: ask(); break;
            case 8: case 9: due("tick", wall.tick(), model.tick()); break;
            case 10: due("look", wall.look(k), model.look(k)); break;
            case 11: case 12: case 13: plan(); break;
            case 14: case 15: due("follow", wall.follow(), model.follow()); break;
            case 16: case 17: fix(k); break;
            case 18: case 19: lay(); break;
            default: questions(k); break;
        }
        counts();
    }

    private void tell() {
        switch (random.nextInt(8)) {
            case 0: readText(texts.sound(6, 4)); break;
            case 1: case 2: readText(texts.any()); break;
            default:
                int n = some(30);
                due("feed", wall.feed(n, n, n, n, n), model.feed(n, n, n, n, n));
                due("back(" + n + ")", wall.back(n), model.back(n));
                n = model.count(9);
                due("back(" + n + ")", wall.back(n), model.back(n));
                break;
        }
    }

    private void source() {
        int s = some(6);
        int c = random.nextInt(4) == 0 ? some(12) : 1 + random.nextInt(9);
        due("cost(" + s + ", " + c + ")", wall.cost(s, c), model.cost(s, c));
        int b = random.nextInt(3) == 0 ? some(62) : random.nextInt(20);
        due("budget(" + b + ")", wall.budget(b), model.budget(b));
    }

    private void fact(int mostTicks) {
        int s = some(6);
        int t = some(mostTicks + 3);
        int v = random.nextInt(5) == 0 ? random.nextInt() : random.nextInt(200) - 100;
        due("value(" + s + ", " + t + ", " + v + ")", wall.value(s, t, v), model.value(s, t, v));
    }

    private void down(int mostTicks) {
        int s = some(6);
        int a = random.nextInt(3) == 0 ? some(mostTicks) : model.count(2) + random.nextInt(8);
        int b = random.nextInt(12) == 0 ? some(402) : a + 1 + random.nextInt(3);
        due("down(" + s + ", " + a + ", " + b + ")", wall.down(s, a, b), model.down(s, a, b));
    }

    private void ask() {
        int set = random.nextInt(3) == 0 ? 1 << random.nextInt(6) : some(64);
        due("ask(" + set + ")", wall.ask(set), model.ask(set));
    }

    private void plan() {
        int set = some(64) & (1 << model.count(0)) - 1;
        if (random.nextInt(10) == 0) {
            set = some(64);
        }
        int h = random.nextInt(2) == 0 ? some(4) : some(12);
        due("plan(" + set + ", " + h + ")", wall.plan(set, h), model.plan(set, h));
        due("left", wall.left(), model.left());
        for (int i = -1; i <= 10; i++) {
            due("planned(" + i + ")", wall.planned(i), model.planned(i));
        }
    }

    private void fix(int k) {
        int row = random.nextInt(3) == 0 ? -1 : random.nextInt(6) == 0 ? some(33) : random.nextInt(6);
        int column = some(8);
        due("fix(" + k + ", " + row + ", " + column + ")", wall.fix(k, row, column), model.fix(k, row, column));
    }

    private void lay() {
        int w = random.nextInt(4) == 0 ? some(10) : 5 + random.nextInt(4);
        due("lay(" + w + ")", wall.lay(w), model.lay(w));
        for (int n = 0; n < 14; n++) {
            due("at(" + n / 2 + ", " + n % 2 + ")", wall.at(n / 2, n % 2), model.at(n / 2, n % 2));
        }
        int k = some(7);
        int what = some(4);
        due("at(" + k + ", " + what + ")", wall.at(k, what), model.at(k, what));
    }

    private void questions(int k) {
        for (int what = -1; what < 12; what++) {
            due("box(" + k + ", " + what + ")", wall.box(k, what), model.box(k, what));
        }
        int t = random.nextInt(4) == 0 ? some(402) : random.nextInt(model.count(2) + 1);
        due("shows(" + k + ")", wall.shows(k), model.shows(k));
        due("showed(" + k + ", " + t + ")", wall.showed(k, t), model.showed(k, t));
        due("aged(" + k + ", " + t + ")", wall.aged(k, t), model.aged(k, t));
        int l = some(13);
        due("let(" + l + ")", wall.let(l), model.let(l));
        int d = random.nextInt(4) == 0 ? some(402) : random.nextInt(8);
        due("unseen(" + d + ", " + k + ")", wall.unseen(d, k), model.unseen(d, k));
        due("place", wall.place(), model.place());
    }

    private void counts() {
        int what = random.nextInt(10);
        due("count(" + what + ")", wall.count(what), model.count(what));
        int odd = some(12);
        due("count(" + odd + ")", wall.count(odd), model.count(odd));
    }
}
