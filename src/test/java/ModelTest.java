import java.util.ArrayList;
import java.util.List;
import java.util.Random;

/**
 * Runs of up to 512 calls, drawn with a fixed seed, on SleighPost and on a second program that was written from
 * the document alone, in the plainest way: all answers and digests have to be the same.
 */
public final class ModelTest {
    private static final Checks CHECKS = new Checks();

    public static void main(String[] args) {
        int runs = args.length > 0 ? Integer.parseInt(args[0]) : 150;
        long seed = args.length > 1 ? Long.parseLong(args[1]) : 1;
        int wrongRuns = 0;
        for (int run = 0; run < runs && wrongRuns < 5; run++) {
            if (!new Run(seed * 1000003 + run).isRight()) {
                wrongRuns++;
            }
        }
        CHECKS.end();
    }

    /** What a call answered, as a text: a number, or the exception's name. */
    private interface Call {
        String answer();
    }

    private static String ask(Call call) {
        try {
            return call.answer();
        } catch (IndexOutOfBoundsException e) {
            return e.getClass() == IndexOutOfBoundsException.class ? "index" : "machine's " + e;
        } catch (IllegalArgumentException e) {
            return e.getClass() == IllegalArgumentException.class ? "argument" : "machine's " + e;
        } catch (IllegalStateException e) {
            return e.getClass() == IllegalStateException.class ? "state" : "machine's " + e;
        }
    }

    private static final class Run {
        /** What later calls answer is free. */
        private static final int MOST_CALLS = 512;

        private final long seed;
        private final Random random;
        private final SleighPost post = new SleighPost();
        private final Model model = new Model();
        private final int wildness;
        private final int thinnest;
        private final int thickest;
        private final boolean gentle;
        /** Hardly anything but sending and waiting: so sleighs become tired. */
        private final boolean busy;
        private int calls;

        Run(long seed) {
            this.seed = seed;
            random = new Random(seed);
            wildness = random.nextInt(4) == 0 ? 10 : 60;
            gentle = random.nextInt(2) == 0;
            busy = random.nextInt(3) == 0;
            thinnest = random.nextInt(25) + (gentle ? 10 : 0);
            thickest = thinnest + random.nextInt(40);
        }

        boolean isRight() {
            prepare();
            while (calls < MOST_CALLS - 2) {
                if (!step()) {
                    return false;
                }
            }
            return isDigestRight("at the end");
        }

        private void prepare() {
            int days = random.nextInt(3);
            for (int day = 0; day < 8; day++) {
                int cold = random.nextInt(17) - 8 + (days == 1 ? 0 : -day % 2);
                try1("setCold", day, days == 0 ? 0 : gentle ? cold / 4 + 1 : cold);
            }
            for (int i = 0; i < 12; i++) {
                int x = random.nextInt(16);
                int y = random.nextInt(10);
                try1("setIce", x, y, 1 + random.nextInt(16 - x), 1 + random.nextInt(10 - y), ice());
            }
            int land = random.nextInt(10);
            try1("setIce", 0, land, 16, 1, gentle ? -1 : thickest);
            for (int i = 0; i < 4; i++) {
                try1("addPost", random.nextInt(16), random.nextInt(10));
            }
            for (int i = 0; i < 3; i++) {
                try1("addSleigh", random.nextInt(4), 1 + random.nextInt(6));
            }
        }

        private int ice() {
            int kind = random.nextInt(10);
            return kind < (gentle ? 6 : 2) ? -1 : kind == 2 ? random.nextInt(201) : thinnest + random.nextInt(thickest - thinnest + 1);
        }

        /** Mostly 0 to most, at times around it or far off. */
        private int near(int most) {
            int kind = random.nextInt(wildness);
            if (kind == 0) {
                int[] odd = {-1, most + 1, Integer.MIN_VALUE, Integer.MAX_VALUE, -random.nextInt(50), most + 2};
                return odd[random.nextInt(odd.length)];
            }
            return random.nextInt(most + 1);
        }

        private int aPost() {
            return near(Math.max(0, model.posts.size() - 1));
        }

        private int aSleigh() {
            return near(Math.max(0, model.sleighs.size() - 1));
        }

        private int aBag() {
            return near(Math.max(0, model.bags.size() - 1));
        }

        private boolean step() {
            if (busy && random.nextInt(4) > 0) {
                return keepGoing();
            }
            int kind = random.nextInt(100);
            if (kind < 5) {
                return try1("setIce", near(15), near(9), 1 + near(3), 1 + near(3), random.nextInt(20) == 0 ? near(200) : ice());
            } else if (kind < 8) {
                return try1("setSnow", near(15), near(9), near(9));
            } else if (kind < 10) {
                return try1("setCold", near(7), near(18) - 9);
            } else if (kind < 15) {
                return try1("cell", near(15), near(9), near(5));
            } else if (kind < 16) {
                return try1("addPost", near(15), near(9));
            } else if (kind < 18) {
                return try1("addSleigh", aPost(), near(6));
            } else if (kind < 28) {
                return try1("addBag", aPost(), aPost(), near(30));
            } else if (kind < 42) {
                return loadSomething();
            } else if (kind < 58) {
                return sendSomething();
            } else if (kind < 62) {
                return try1("sleigh", aSleigh(), near(8));
            } else if (kind < 65) {
                return try1("bag", aBag(), near(4));
            } else if (kind < 82) {
                return try1("pass", someHours());
            } else if (kind < 84) {
                return try1("count", near(8));
            } else if (kind < 88) {
                return try1("way", aPost(), aPost(), random.nextInt(5) == 0 ? near(2000) : 1 + near(400), near(6));
            } else if (kind < 91) {
                return try1("bears", aPost(), aPost());
            } else if (kind < 94) {
                return try1("foresee", aSleigh(), near(200));
            } else if (kind < 98) {
                return try1("arrives", aSleigh());
            }
            return try1("mean");
        }

        /** Mostly what can be loaded: drawn blindly, hardly a bag would come. */
        private boolean loadSomething() {
            for (int i = 0; i < 40 && random.nextInt(10) > 0; i++) {
                int sleigh = random.nextInt(model.sleighs.size() + 1);
                int bag = random.nextInt(model.bags.size() + 1);
                if (sleigh < model.sleighs.size() && bag < model.bags.size()) {
                    Integer there = model.sleighs.get(sleigh).restsAt;
                    if (there != null && there.equals(model.bags.get(bag).waitsAt)) {
                        return try1("load", sleigh, bag);
                    }
                }
            }
            return try1("load", aSleigh(), aBag());
        }

        private boolean sendSomething() {
            for (int i = 0; i < 10 && random.nextInt(10) > 0; i++) {
                int sleigh = random.nextInt(model.sleighs.size() + 1);
                if (sleigh < model.sleighs.size() && model.sleighs.get(sleigh).restsAt != null) {
                    return try1("send", sleigh, aPost());
                }
            }
            return try1("send", aSleigh(), aPost());
        }

        private boolean keepGoing() {
            for (int i = 0; i < model.sleighs.size(); i++) {
                if (model.sleighs.get(i).restsAt != null && random.nextInt(10) > 0) {
                    return try1("send", i, aPost());
                }
            }
            return try1("pass", 1 + random.nextInt(4));
        }

        /** Often until a sleigh comes: sent on at once, it becomes tired. */
        private int someHours() {
            int sleigh = random.nextInt(model.sleighs.size() + 1);
            if (sleigh < model.sleighs.size() && model.sleighs.get(sleigh).goesTo != null && random.nextInt(4) > 0) {
                return Math.max(1, model.arrives(sleigh) + 1 - model.count(0));
            }
            return random.nextInt(8) == 0 ? near(200) : 1 + near(10);
        }

        private boolean try1(String name, int... a) {
            String call = name + java.util.Arrays.toString(a);
            String got = ask(() -> onPost(name, a));
            String due = ask(() -> onModel(name, a));
            calls++;
            if (!got.equals(due)) {
                CHECKS.report("seed " + seed + ", call " + calls + ": " + call + " answered " + got + ", the model " + due);
                return false;
            }
            return random.nextInt(3) > 0 || isDigestRight("after " + call);
        }

        private boolean isDigestRight(String when) {
            long got = post.digest();
            long due = model.digest();
            calls++;
            CHECKS.sameLong("seed " + seed + ", call " + calls + ": digest " + when, got, due);
            return got == due;
        }

        private String onPost(String name, int[] a) {
            switch (name) {
                case "setIce": return "" + post.setIce(a[0], a[1], a[2], a[3], a[4]);
                case "setSnow": return "" + post.setSnow(a[0], a[1], a[2]);
                case "setCold": return "" + post.setCold(a[0], a[1]);
                case "cell": return "" + post.cell(a[0], a[1], a[2]);
                case "addPost": return "" + post.addPost(a[0], a[1]);
                case "addSleigh": return "" + post.addSleigh(a[0], a[1]);
                case "addBag": return "" + post.addBag(a[0], a[1], a[2]);
                case "load": return "" + post.load(a[0], a[1]);
                case "send": return "" + post.send(a[0], a[1]);
                case "sleigh": return "" + post.sleigh(a[0], a[1]);
                case "bag": return "" + post.bag(a[0], a[1]);
                case "pass": return "" + post.pass(a[0]);
                case "count": return "" + post.count(a[0]);
                case "way": return "" + post.way(a[0], a[1], a[2], a[3]);
                case "bears": return "" + post.bears(a[0], a[1]);
                case "foresee": return "" + post.foresee(a[0], a[1]);
                case "arrives": return "" + post.arrives(a[0]);
                default: return "" + post.mean();
            }
        }

        private String onModel(String name, int[] a) {
            switch (name) {
                case "setIce": return "" + model.setIce(a[0], a[1], a[2], a[3], a[4]);
                case "setSnow": return "" + model.setSnow(a[0], a[1], a[2]);
                case "setCold": return "" + model.setCold(a[0], a[1]);
                case "cell": return "" + model.cell(a[0], a[1], a[2]);
                case "addPost": return "" + model.addPost(a[0], a[1]);
                case "addSleigh": return "" + model.addSleigh(a[0], a[1]);
                case "addBag": return "" + model.addBag(a[0], a[1], a[2]);
                case "load": return "" + model.load(a[0], a[1]);
                case "send": return "" + model.send(a[0], a[1]);
                case "sleigh": return "" + model.sleigh(a[0], a[1]);
                case "bag": return "" + model.bag(a[0], a[1]);
                case "pass": return "" + model.pass(a[0]);
                case "count": return "" + model.count(a[0]);
                case "way": return "" + model.way(a[0], a[1], a[2], a[3]);
                case "bears": return "" + model.bears(a[0], a[1]);
                case "foresee": return "" + model.foresee(a[0], a[1]);
                case "arrives": return "" + model.arrives(a[0]);
                default: return "" + model.mean();
            }
        }
    }

    /** The document once more, on a grid of cells, with ways looked for forwards and by repeated sweeps. */
    private static final class Model {
        private static final class Cell {
            int x, y, thick = 30, snow = 1, strain;
            boolean land, cracked;
        }

        private static final class Drawn {
            int reindeer, tired, left;
            Cell at, to;
            Integer restsAt, goesTo;
            boolean sunk;
            List<Letter> mail = new ArrayList<>();
        }

        private static final class Letter {
            int number, weight, goal, came = -1;
            Integer waitsAt;
            Drawn on;
            boolean lost;
        }

        private final Cell[][] map = new Cell[10][16];
        private final int[] cold = {5, 5, 5, 5, 5, 5, 5, 5};
        private final List<Cell> posts = new ArrayList<>();
        private final List<Drawn> sleighs = new ArrayList<>();
        private final List<Letter> bags = new ArrayList<>();
        private int hour;

        Model() {
            for (int y = 0; y < 10; y++) {
                for (int x = 0; x < 16; x++) {
                    map[y][x] = new Cell();
                    map[y][x].x = x;
                    map[y][x].y = y;
                }
            }
        }

        private Model copy() {
            Model m = new Model();
            System.arraycopy(cold, 0, m.cold, 0, 8);
            m.hour = hour;
            for (int y = 0; y < 10; y++) {
                for (int x = 0; x < 16; x++) {
                    Cell a = map[y][x];
                    Cell b = m.map[y][x];
                    b.thick = a.thick;
                    b.snow = a.snow;
                    b.strain = a.strain;
                    b.land = a.land;
                    b.cracked = a.cracked;
                }
            }
            for (Cell p : posts) {
                m.posts.add(m.map[p.y][p.x]);
            }
            for (Drawn s : sleighs) {
                Drawn t = new Drawn();
                t.reindeer = s.reindeer;
                t.tired = s.tired;
                t.left = s.left;
                t.at = m.map[s.at.y][s.at.x];
                t.to = s.to == null ? null : m.map[s.to.y][s.to.x];
                t.restsAt = s.restsAt;
                t.goesTo = s.goesTo;
                t.sunk = s.sunk;
                m.sleighs.add(t);
            }
            for (Letter l : bags) {
                Letter k = new Letter();
                k.number = l.number;
                k.weight = l.weight;
                k.goal = l.goal;
                k.came = l.came;
                k.waitsAt = l.waitsAt;
                k.lost = l.lost;
                if (l.on != null) {
                    k.on = m.sleighs.get(sleighs.indexOf(l.on));
                    k.on.mail.add(k);
                }
                m.bags.add(k);
            }
            return m;
        }

        private static boolean there(int x, int y) {
            return 0 <= x && x < 16 && 0 <= y && y < 10;
        }

        private static int number(Cell c) {
            return c.x + 16 * c.y;
        }

        private List<Cell> beside(Cell c) {
            List<Cell> found = new ArrayList<>();
            int[][] steps = {{1, 0}, {-1, 0}, {0, 1}, {0, -1}};
            for (int[] s : steps) {
                if (there(c.x + s[0], c.y + s[1])) {
                    found.add(map[c.y + s[1]][c.x + s[0]]);
                }
            }
            return found;
        }

        private static boolean bearsThis(Cell c, int weight) {
            if (c.land) {
                return true;
            }
            int need = 8 + weight / 12;
            if (c.cracked) {
                need += need;
            }
            return need <= c.thick;
        }

        private static int pace(Cell c, int weight, int reindeer, int tired) {
            int hours = c.snow;
            hours += weight / (60 * reindeer);
            if (tired > 49) {
                hours++;
            }
            return hours;
        }

        /** Hours from a cell to each other one. */
        private int[][] hoursFrom(Cell from, int weight, int reindeer, int tired) {
            int[][] best = new int[10][16];
            for (int[] row : best) {
                java.util.Arrays.fill(row, -1);
            }
            best[from.y][from.x] = 0;
            List<Cell> open = new ArrayList<>();
            open.add(from);
            for (int i = 0; i < open.size(); i++) {
                Cell c = open.get(i);
                for (Cell d : beside(c)) {
                    if (bearsThis(d, weight)) {
                        int hours = best[c.y][c.x] + pace(d, weight, reindeer, tired);
                        if (best[d.y][d.x] == -1 || hours < best[d.y][d.x]) {
                            best[d.y][d.x] = hours;
                            open.add(d);
                        }
                    }
                }
            }
            return best;
        }

        private int hours(Cell from, Cell to, int weight, int reindeer, int tired) {
            return hoursFrom(from, weight, reindeer, tired)[to.y][to.x];
        }

        private Cell first(Cell from, Cell to, int weight, int reindeer, int tired) {
            Cell best = null;
            int fewest = 0;
            for (Cell c : beside(from)) {
                if (!bearsThis(c, weight)) {
                    continue;
                }
                int rest = hours(c, to, weight, reindeer, tired);
                if (rest == -1) {
                    continue;
                }
                int all = rest + pace(c, weight, reindeer, tired);
                if (best == null || all < fewest || all == fewest && number(c) < number(best)) {
                    best = c;
                    fewest = all;
                }
            }
            return best;
        }

        private static int weight(Drawn s) {
            int all = 40;
            for (int i = 0; i < s.reindeer; i++) {
                all += 30;
            }
            for (Letter l : s.mail) {
                all += l.weight;
            }
            return all;
        }

        private void index(boolean wrong) {
            if (wrong) {
                throw new IndexOutOfBoundsException();
            }
        }

        private void argument(boolean wrong) {
            if (wrong) {
                throw new IllegalArgumentException();
            }
        }

        private void state(boolean wrong) {
            if (wrong) {
                throw new IllegalStateException();
            }
        }

        private void noSleigh(int sleigh) {
            index(sleigh < 0 || sleigh >= sleighs.size());
        }

        private void noPost(int post) {
            index(post < 0 || post >= posts.size());
        }

        private void noBag(int bag) {
            index(bag < 0 || bag >= bags.size());
        }

        int setIce(int x, int y, int wide, int deep, int thickness) {
            argument(wide < 1 || deep < 1 || wide > 16 || deep > 10);
            argument(!there(x, y) || !there(x + wide - 1, y + deep - 1));
            argument(thickness < -1 || thickness > 200);
            List<Cell> all = new ArrayList<>();
            for (int i = 0; i < wide; i++) {
                for (int j = 0; j < deep; j++) {
                    all.add(map[y + j][x + i]);
                }
            }
            for (Cell c : all) {
                state(thickness != -1 && posts.contains(c));
                for (Drawn s : sleighs) {
                    state(thickness != -1 && s.at == c && !s.sunk);
                }
            }
            for (Cell c : all) {
                c.land = thickness == -1;
                c.thick = Math.max(0, thickness);
                c.strain = 0;
                c.cracked = false;
            }
            return all.size();
        }

        int setSnow(int x, int y, int snow) {
            index(!there(x, y));
            argument(snow < 1 || snow > 9);
            int before = map[y][x].snow;
            map[y][x].snow = snow;
            return before;
        }

        int setCold(int day, int much) {
            index(day < 0 || day > 7);
            argument(much < -9 || much > 9);
            int before = cold[day];
            cold[day] = much;
            return before;
        }

        int cell(int x, int y, int what) {
            index(!there(x, y) || what < 0 || what > 5);
            Cell c = map[y][x];
            int on = 0;
            for (Drawn s : sleighs) {
                if (s.at == c && !s.sunk) {
                    on++;
                }
            }
            int[] all = {c.land ? -1 : c.thick, c.snow, c.strain, c.cracked ? 1 : 0, posts.indexOf(c), on};
            return all[what];
        }

        int addPost(int x, int y) {
            index(!there(x, y));
            state(posts.contains(map[y][x]) || posts.size() == 8);
            setIceUnder(map[y][x]);
            posts.add(map[y][x]);
            return posts.size() - 1;
        }

        private void setIceUnder(Cell c) {
            c.land = true;
            c.strain = 0;
            c.cracked = false;
        }

        int addSleigh(int post, int reindeer) {
            noPost(post);
            argument(reindeer < 1 || reindeer > 6);
            state(sleighs.size() == 5);
            Drawn s = new Drawn();
            s.reindeer = reindeer;
            s.at = posts.get(post);
            s.restsAt = post;
            sleighs.add(s);
            return sleighs.size() - 1;
        }

        int addBag(int from, int to, int weight) {
            noPost(from);
            noPost(to);
            argument(from == to || weight < 1 || weight > 30);
            state(bags.size() == 40);
            Letter l = new Letter();
            l.number = bags.size();
            l.weight = weight;
            l.goal = to;
            l.waitsAt = from;
            bags.add(l);
            return l.number;
        }

        int load(int sleigh, int bag) {
            noSleigh(sleigh);
            noBag(bag);
            Drawn s = sleighs.get(sleigh);
            Letter l = bags.get(bag);
            state(l.waitsAt == null || s.restsAt == null || !s.restsAt.equals(l.waitsAt));
            l.waitsAt = null;
            l.on = s;
            s.mail.add(l);
            return weight(s);
        }

        int send(int sleigh, int post) {
            noSleigh(sleigh);
            noPost(post);
            Drawn s = sleighs.get(sleigh);
            argument(s.restsAt != null && s.restsAt == post);
            state(s.restsAt == null);
            s.restsAt = null;
            s.goesTo = post;
            return hours(s.at, posts.get(post), weight(s), s.reindeer, s.tired);
        }

        int sleigh(int sleigh, int what) {
            noSleigh(sleigh);
            index(what < 0 || what > 8);
            Drawn s = sleighs.get(sleigh);
            int doing = s.sunk ? 2 : s.restsAt != null ? 0 : 1;
            int post = s.sunk ? -1 : s.restsAt != null ? s.restsAt : s.goesTo;
            int[] all = {s.reindeer, weight(s), s.tired, doing, number(s.at), post, s.to == null ? 0 : s.left,
                8 + weight(s) / 12, s.mail.size()};
            return all[what];
        }

        int bag(int bag, int what) {
            noBag(bag);
            index(what < 0 || what > 4);
            Letter l = bags.get(bag);
            int doing = l.lost ? 3 : l.came >= 0 ? 2 : l.on != null ? 1 : 0;
            int place = l.lost ? -1 : l.came >= 0 ? l.goal : l.on != null ? sleighs.indexOf(l.on) : l.waitsAt;
            int[] all = {l.weight, l.goal, doing, place, l.came};
            return all[what];
        }

        int pass(int hours) {
            argument(hours < 1 || hours > 200);
            int before = count(5);
            for (int i = 0; i < hours; i++) {
                oneHour();
            }
            return count(5) - before;
        }

        private void oneHour() {
            if (hour % 24 == 0) {
                day(cold[hour / 24 % 8]);
            }
            for (Drawn s : sleighs) {
                if (!s.sunk && !bearsThis(s.at, weight(s))) {
                    sink(s);
                }
            }
            for (Drawn s : sleighs) {
                if (s.to != null) {
                    s.left--;
                    if (s.left == 0) {
                        come(s);
                    }
                }
            }
            for (Drawn s : sleighs) {
                if (s.goesTo != null && s.to == null) {
                    setOut(s);
                }
            }
            for (Drawn s : sleighs) {
                if (s.restsAt != null) {
                    s.tired = s.tired < 2 ? 0 : s.tired - 2;
                }
            }
            hour++;
        }

        private void day(int much) {
            List<Cell> toCrack = new ArrayList<>();
            for (Cell[] row : map) {
                for (Cell c : row) {
                    if (c.land) {
                        continue;
                    }
                    if (much > 0) {
                        c.thick += much * 12 / (6 + c.thick / 10);
                        c.thick = c.thick > 200 ? 200 : c.thick;
                        c.strain = c.strain < 2 ? 0 : c.strain - 2;
                    }
                    if (much < 0) {
                        c.thick += 3 * much;
                        c.thick = c.thick < 0 ? 0 : c.thick;
                        for (Cell d : beside(c)) {
                            if (c.strain > 0 && d.cracked) {
                                toCrack.add(c);
                            }
                        }
                    }
                }
            }
            for (Cell c : toCrack) {
                c.cracked = true;
            }
        }

        private void sink(Drawn s) {
            s.sunk = true;
            s.restsAt = null;
            s.goesTo = null;
            s.to = null;
            for (Letter l : s.mail) {
                l.lost = true;
                l.on = null;
            }
            s.mail.clear();
        }

        private void come(Drawn s) {
            s.at = s.to;
            s.to = null;
            s.tired = s.tired == 100 ? 100 : s.tired + 1;
            if (s.at == posts.get(s.goesTo)) {
                s.restsAt = s.goesTo;
                s.goesTo = null;
                for (Letter l : s.mail) {
                    l.on = null;
                    if (l.goal == s.restsAt) {
                        l.came = hour;
                    } else {
                        l.waitsAt = s.restsAt;
                    }
                }
                s.mail.clear();
            }
        }

        private void setOut(Drawn s) {
            Cell next = first(s.at, posts.get(s.goesTo), weight(s), s.reindeer, s.tired);
            if (next == null) {
                return;
            }
            s.to = next;
            s.left = pace(next, weight(s), s.reindeer, s.tired);
            Cell c = s.at;
            int need = 8 + weight(s) / 12;
            if (!c.land && c.thick < (c.cracked ? need * 2 : need) + 10) {
                c.strain = c.strain == 9 ? 9 : c.strain + 1;
                if (c.strain > 2) {
                    c.cracked = true;
                }
            }
        }

        int count(int what) {
            index(what < 0 || what > 8);
            int sunk = 0;
            int come = 0;
            int lost = 0;
            int cracked = 0;
            int thick = 0;
            for (Drawn s : sleighs) {
                sunk += s.sunk ? 1 : 0;
            }
            for (Letter l : bags) {
                come += l.came >= 0 ? 1 : 0;
                lost += l.lost ? 1 : 0;
            }
            for (Cell[] row : map) {
                for (Cell c : row) {
                    cracked += !c.land && c.cracked ? 1 : 0;
                    thick += c.land ? 0 : c.thick;
                }
            }
            int[] all = {hour, posts.size(), sleighs.size(), sunk, bags.size(), come, lost, cracked, thick};
            return all[what];
        }

        int way(int from, int to, int weight, int reindeer) {
            noPost(from);
            noPost(to);
            argument(weight < 1 || weight > 2000 || reindeer < 1 || reindeer > 6);
            return hours(posts.get(from), posts.get(to), weight, reindeer, 0);
        }

        int bears(int from, int to) {
            noPost(from);
            noPost(to);
            if (from == to) {
                return 2000;
            }
            for (int weight = 2000; weight > 0; weight--) {
                boolean[] seen = new boolean[160];
                if (reaches(posts.get(from), posts.get(to), weight, seen)) {
                    return weight;
                }
            }
            return -1;
        }

        private boolean reaches(Cell from, Cell to, int weight, boolean[] seen) {
            if (from == to) {
                return true;
            }
            seen[number(from)] = true;
            for (Cell c : beside(from)) {
                if (!seen[number(c)] && bearsThis(c, weight) && reaches(c, to, weight, seen)) {
                    return true;
                }
            }
            return false;
        }

        int foresee(int sleigh, int hours) {
            noSleigh(sleigh);
            argument(hours < 1 || hours > 200);
            Model m = copy();
            m.pass(hours);
            return m.sleighs.get(sleigh).sunk ? -1 : number(m.sleighs.get(sleigh).at);
        }

        int arrives(int sleigh) {
            noSleigh(sleigh);
            state(sleighs.get(sleigh).goesTo == null);
            Model m = copy();
            for (int i = 0; i < 300; i++) {
                int now = m.hour;
                m.pass(1);
                if (m.sleighs.get(sleigh).restsAt != null) {
                    return now;
                }
            }
            return -1;
        }

        double mean() {
            double cells = 0;
            double sum = 0;
            for (Cell[] row : map) {
                for (Cell c : row) {
                    if (!c.land) {
                        cells++;
                        sum += c.thick;
                    }
                }
            }
            return cells == 0 ? 0 : sum / cells;
        }

        long digest() {
            List<Integer> told = new ArrayList<>();
            for (int what = 0; what < 9; what++) {
                told.add(count(what));
            }
            for (int much : cold) {
                told.add(much);
            }
            for (int y = 0; y < 10; y++) {
                for (int x = 0; x < 16; x++) {
                    for (int what = 0; what < 4; what++) {
                        told.add(cell(x, y, what));
                    }
                }
            }
            for (Cell c : posts) {
                told.add(number(c));
            }
            for (int i = 0; i < sleighs.size(); i++) {
                for (int what = 0; what < 9; what++) {
                    told.add(sleigh(i, what));
                }
            }
            for (int i = 0; i < bags.size(); i++) {
                for (int what = 0; what < 5; what++) {
                    told.add(bag(i, what));
                }
            }
            long d = 601;
            for (int x : told) {
                d = 31 * d + x;
            }
            return d;
        }
    }
}
