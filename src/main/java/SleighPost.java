import java.util.Arrays;

/** A sleigh post over frozen lakes. What each call does stands in DOC.md, promise by promise. */
public final class SleighPost {
    private static final int COLUMNS = 16;
    private static final int ROWS = 10;
    private static final int CELLS = 160;
    private static final int SIDES = 4;
    private static final int DAYS = 8;
    private static final int HOURS_OF_A_DAY = 24;

    private static final int MOST_POSTS = 8;
    private static final int MOST_SLEIGHS = 5;
    private static final int MOST_BAGS = 40;
    private static final int MOST_REINDEER = 6;
    private static final int HEAVIEST_BAG = 30;
    private static final int HEAVIEST = 2000;
    private static final int THICKEST = 200;
    private static final int MOST_SNOW = 9;
    private static final int COLDEST = 9;
    private static final int MOST_STRAIN = 9;
    private static final int MOST_TIRED = 100;
    private static final int LONGEST_PASS = 200;
    private static final int LONGEST_LOOK = 300;

    private static final int LAND = -1;
    private static final int NONE = -1;

    private static final int RESTS = 0;
    private static final int UNDER_WAY = 1;
    private static final int SUNK = 2;

    private static final int WAITS = 0;
    private static final int ON_SLEIGH = 1;
    private static final int COME = 2;
    private static final int LOST = 3;

    private static final int CELL_ANSWERS = 6;
    private static final int SLEIGH_ANSWERS = 9;
    private static final int BAG_ANSWERS = 5;
    private static final int COUNT_ANSWERS = 9;

    private final World now;
    /** Looking ahead plays on this copy, made once, so that no call leaves new objects behind. */
    private final World ahead;

    public SleighPost() {
        now = new World();
        ahead = new World();
    }

    // ---- land, ice, frost

    public int setIce(int x, int y, int wide, int deep, int thickness)
            throws IllegalArgumentException, IllegalStateException {
        if (!isRectangle(x, y, wide, deep) || !isWithin(thickness, LAND, THICKEST)) {
            throw new IllegalArgumentException("no such rectangle or thickness");
        }
        if (thickness != LAND && now.isTaken(x, y, wide, deep)) {
            throw new IllegalStateException("a post or a sleigh is there");
        }
        for (int row = y; row < y + deep; row++) {
            for (int column = x; column < x + wide; column++) {
                now.lake.lay(numberOf(column, row), thickness);
            }
        }
        return wide * deep;
    }

    public int setSnow(int x, int y, int snow) throws IndexOutOfBoundsException, IllegalArgumentException {
        if (!isOnMap(x, y)) {
            throw new IndexOutOfBoundsException("no such cell");
        }
        if (!isWithin(snow, 1, MOST_SNOW)) {
            throw new IllegalArgumentException("snow is 1 to 9");
        }
        int before = now.lake.snowOf(numberOf(x, y));
        now.lake.snowOver(numberOf(x, y), snow);
        return before;
    }

    public int setCold(int day, int cold) throws IndexOutOfBoundsException, IllegalArgumentException {
        if (!isWithin(day, 0, DAYS - 1)) {
            throw new IndexOutOfBoundsException("no such day");
        }
        if (!isWithin(cold, -COLDEST, COLDEST)) {
            throw new IllegalArgumentException("cold is -9 to 9");
        }
        int before = now.lake.cold[day];
        now.lake.cold[day] = cold;
        return before;
    }

    public int cell(int x, int y, int what) throws IndexOutOfBoundsException {
        if (!isOnMap(x, y) || !isWithin(what, 0, CELL_ANSWERS - 1)) {
            throw new IndexOutOfBoundsException("no such cell or question");
        }
        return now.tellCell(numberOf(x, y), what);
    }

    // ---- posts, sleighs, mail

    public int addPost(int x, int y) throws IndexOutOfBoundsException, IllegalStateException {
        if (!isOnMap(x, y)) {
            throw new IndexOutOfBoundsException("no such cell");
        }
        int cell = numberOf(x, y);
        if (now.postOn(cell) != NONE || now.posts >= MOST_POSTS) {
            throw new IllegalStateException("a post is there, or there are 8");
        }
        return now.buildPost(cell);
    }

    public int addSleigh(int post, int reindeer)
            throws IndexOutOfBoundsException, IllegalArgumentException, IllegalStateException {
        if (!now.isPost(post)) {
            throw new IndexOutOfBoundsException("no such post");
        }
        if (!isWithin(reindeer, 1, MOST_REINDEER)) {
            throw new IllegalArgumentException("reindeer are 1 to 6");
        }
        if (now.sleighCount >= MOST_SLEIGHS) {
            throw new IllegalStateException("there are 5 sleighs");
        }
        return now.harness(post, reindeer);
    }

    public int addBag(int from, int to, int weight)
            throws IndexOutOfBoundsException, IllegalArgumentException, IllegalStateException {
        if (!now.isPost(from) || !now.isPost(to)) {
            throw new IndexOutOfBoundsException("no such post");
        }
        if (from == to || !isWithin(weight, 1, HEAVIEST_BAG)) {
            throw new IllegalArgumentException("the same post, or a weight that is not 1 to 30");
        }
        if (now.bagCount >= MOST_BAGS) {
            throw new IllegalStateException("there are 40 bags");
        }
        return now.postMail(from, to, weight);
    }

    public int load(int sleigh, int bag) throws IndexOutOfBoundsException, IllegalStateException {
        Sleigh loaded = now.sleighAt(sleigh);
        Bag mail = now.bagAt(bag);
        if (loaded == null || mail == null) {
            throw new IndexOutOfBoundsException("no such sleigh or bag");
        }
        if (mail.state != WAITS || loaded.state != RESTS || loaded.post != mail.place) {
            throw new IllegalStateException("the bag does not wait where the sleigh rests");
        }
        mail.state = ON_SLEIGH;
        mail.place = sleigh;
        loaded.mail += mail.weight;
        return loaded.weight();
    }

    public int send(int sleigh, int post)
            throws IndexOutOfBoundsException, IllegalArgumentException, IllegalStateException {
        Sleigh sent = now.sleighAt(sleigh);
        if (sent == null || !now.isPost(post)) {
            throw new IndexOutOfBoundsException("no such sleigh or post");
        }
        if (sent.state == RESTS && sent.post == post) {
            throw new IllegalArgumentException("it rests there");
        }
        if (sent.state != RESTS) {
            throw new IllegalStateException("it does not rest");
        }
        sent.depart(post);
        return now.hoursToGoal(sent);
    }

    public int sleigh(int sleigh, int what) throws IndexOutOfBoundsException {
        Sleigh asked = now.sleighAt(sleigh);
        if (asked == null || !isWithin(what, 0, SLEIGH_ANSWERS - 1)) {
            throw new IndexOutOfBoundsException("no such sleigh or question");
        }
        return now.tellSleigh(sleigh, what);
    }

    public int bag(int bag, int what) throws IndexOutOfBoundsException {
        Bag asked = now.bagAt(bag);
        if (asked == null || !isWithin(what, 0, BAG_ANSWERS - 1)) {
            throw new IndexOutOfBoundsException("no such bag or question");
        }
        return asked.tell(what);
    }

    // ---- hours

    public int pass(int hours) throws IllegalArgumentException {
        if (!isWithin(hours, 1, LONGEST_PASS)) {
            throw new IllegalArgumentException("hours are 1 to 200");
        }
        int came = 0;
        for (int i = 0; i < hours; i++) {
            came += now.goOneHour();
        }
        return came;
    }

    public int count(int what) throws IndexOutOfBoundsException {
        if (!isWithin(what, 0, COUNT_ANSWERS - 1)) {
            throw new IndexOutOfBoundsException("no such question");
        }
        return now.tellCount(what);
    }

    // ---- ways, looking ahead

    public int way(int from, int to, int weight, int reindeer)
            throws IndexOutOfBoundsException, IllegalArgumentException {
        if (!now.isPost(from) || !now.isPost(to)) {
            throw new IndexOutOfBoundsException("no such post");
        }
        if (!isWithin(weight, 1, HEAVIEST) || !isWithin(reindeer, 1, MOST_REINDEER)) {
            throw new IllegalArgumentException("no such weight or so many reindeer");
        }
        return now.ways.look(now.lake, now.cellOfPost(from), now.cellOfPost(to), thicknessFor(weight),
                drag(weight, reindeer, 0));
    }

    public int bears(int from, int to) throws IndexOutOfBoundsException {
        if (!now.isPost(from) || !now.isPost(to)) {
            throw new IndexOutOfBoundsException("no such post");
        }
        return heaviestBetween(now.cellOfPost(from), now.cellOfPost(to));
    }

    public int foresee(int sleigh, int hours) throws IndexOutOfBoundsException, IllegalArgumentException {
        if (now.sleighAt(sleigh) == null) {
            throw new IndexOutOfBoundsException("no such sleigh");
        }
        if (!isWithin(hours, 1, LONGEST_PASS)) {
            throw new IllegalArgumentException("hours are 1 to 200");
        }
        ahead.copyWithoutBags(now);
        Sleigh watched = ahead.sleighAt(sleigh);
        for (int i = 0; watched != null && i < hours && watched.state != SUNK; i++) {
            ahead.goOneHour();
        }
        return watched == null || watched.state == SUNK ? NONE : watched.cell;
    }

    public int arrives(int sleigh) throws IndexOutOfBoundsException, IllegalStateException {
        Sleigh asked = now.sleighAt(sleigh);
        if (asked == null) {
            throw new IndexOutOfBoundsException("no such sleigh");
        }
        if (asked.state != UNDER_WAY) {
            throw new IllegalStateException("it is not under way");
        }
        ahead.copyWithoutBags(now);
        Sleigh watched = ahead.sleighAt(sleigh);
        for (int i = 0; watched != null && i < LONGEST_LOOK && watched.state == UNDER_WAY; i++) {
            ahead.goOneHour();
        }
        // The hour in which it came to rest has gone by on the copy.
        return watched != null && watched.state == RESTS ? ahead.hour - 1 : NONE;
    }

    public double mean() {
        int cells = now.lake.iceCells();
        return cells < 1 ? 0.0 : (double) now.lake.allThickness() / (double) cells;
    }

    public long digest() {
        long d = 601L;
        for (int what = 0; what < COUNT_ANSWERS; what++) {
            d = d * 31 + now.tellCount(what);
        }
        d = now.lake.digestInto(d);
        d = now.digestPosts(d);
        d = now.digestSleighs(d);
        return now.digestBags(d);
    }

    // ---- what the calls share

    private int heaviestBetween(int from, int to) {
        int borne = 0;
        for (int more = 1024; more > 0; more /= 2) {
            int weight = borne + more;
            if (weight <= HEAVIEST && now.ways.look(now.lake, from, to, thicknessFor(weight), 0) != NONE) {
                borne = weight;
            }
        }
        return borne == 0 ? NONE : borne;
    }

    private static boolean isWithin(int value, int least, int most) {
        return value >= least && value <= most;
    }

    private static boolean isOnMap(int x, int y) {
        return isWithin(x, 0, COLUMNS - 1) && isWithin(y, 0, ROWS - 1);
    }

    private static boolean isRectangle(int x, int y, int wide, int deep) {
        // The room that is left is taken from the map's size: x + wide could wrap around.
        return isOnMap(x, y) && isWithin(wide, 1, COLUMNS - x) && isWithin(deep, 1, ROWS - y);
    }

    private static boolean isCell(int cell) {
        return cell >= 0 && cell < CELLS;
    }

    private static int numberOf(int x, int y) {
        return x + COLUMNS * y;
    }

    /** The cell side by side with this one, the sides in the order of their cells' numbers. */
    private static int beside(int cell, int side) {
        int x = cell % COLUMNS;
        switch (side) {
            case 0:
                return cell < COLUMNS ? NONE : cell - COLUMNS;
            case 1:
                return x == 0 ? NONE : cell - 1;
            case 2:
                return x == COLUMNS - 1 ? NONE : cell + 1;
            default:
                return cell + COLUMNS < CELLS ? cell + COLUMNS : NONE;
        }
    }

    private static int thicknessFor(int weight) {
        return 8 + weight / 12;
    }

    /** What a cell takes in hours beyond its snow. */
    private static int drag(int weight, int reindeer, int tired) {
        int pull = 60 * reindeer;
        return (pull > 0 ? weight / pull : 0) + (tired >= 50 ? 1 : 0);
    }

    /** Land and ice with its snow, strain and cracks, and the table of cold. */
    private static final class Lake {
        private final int[] thickness = new int[CELLS];
        private final int[] snow = new int[CELLS];
        private final int[] strain = new int[CELLS];
        private final boolean[] cracked = new boolean[CELLS];
        private final boolean[] crackedBefore = new boolean[CELLS];
        private final int[] cold = new int[DAYS];
        /** Grows with whatever may open a way: a sleigh without one looks in vain until then. */
        private int openings;

        Lake() {
            Arrays.fill(thickness, 30);
            Arrays.fill(snow, 1);
            Arrays.fill(cold, 5);
        }

        void copyLake(Lake other) {
            System.arraycopy(other.thickness, 0, thickness, 0, CELLS);
            System.arraycopy(other.snow, 0, snow, 0, CELLS);
            System.arraycopy(other.strain, 0, strain, 0, CELLS);
            System.arraycopy(other.cold, 0, cold, 0, DAYS);
            for (int i = 0; i < CELLS; i++) {
                cracked[i] = other.cracked[i];
            }
        }

        void lay(int cell, int newThickness) {
            if (isCell(cell)) {
                thickness[cell] = newThickness;
                strain[cell] = 0;
                cracked[cell] = false;
                openings++;
            }
        }

        void snowOver(int cell, int newSnow) {
            if (isCell(cell)) {
                snow[cell] = newSnow;
            }
        }

        int thicknessOf(int cell) {
            return isCell(cell) ? thickness[cell] : LAND;
        }

        int snowOf(int cell) {
            return cell < 0 || cell >= CELLS ? 1 : snow[cell];
        }

        int strainOf(int cell) {
            return isCell(cell) ? strain[cell] : 0;
        }

        boolean isCracked(int cell) {
            return isCell(cell) && cracked[cell];
        }

        /** Whether a cell bears what needs so thick an ice without a crack. */
        boolean holds(int cell, int need) {
            // The cell's number is tested here itself, as the calls stand deep where ways are looked for.
            if (cell < 0 || cell >= CELLS || thickness[cell] < 0) {
                return true;
            }
            return thickness[cell] >= (cracked[cell] ? 2 * need : need);
        }

        /** What a sleigh does to the ice that it leaves. */
        void strainUnder(int cell, int need) {
            if (!isCell(cell) || thickness[cell] < 0) {
                return;
            }
            int neededHere = cracked[cell] ? 2 * need : need;
            if (thickness[cell] < neededHere + 10) {
                strain[cell] = Math.min(MOST_STRAIN, strain[cell] + 1);
                cracked[cell] = cracked[cell] || strain[cell] >= 3;
            }
        }

        void beginDay(int day) {
            int frost = cold[Math.floorMod(day, DAYS)];
            if (frost > 0) {
                freeze(frost);
            } else if (frost < 0) {
                thin(-frost);
                spreadCracks();
            }
        }

        private void freeze(int frost) {
            openings++;
            for (int i = 0; i < CELLS; i++) {
                if (thickness[i] >= 0) {
                    int growth = frost * 12 / (6 + thickness[i] / 10);
                    thickness[i] = Math.min(THICKEST, thickness[i] + growth);
                    strain[i] = Math.max(0, strain[i] - 2);
                }
            }
        }

        private void thin(int thaw) {
            for (int i = 0; i < CELLS; i++) {
                if (thickness[i] >= 0) {
                    thickness[i] = Math.max(0, thickness[i] - 3 * thaw);
                }
            }
        }

        private void spreadCracks() {
            for (int i = 0; i < CELLS; i++) {
                crackedBefore[i] = cracked[i];
            }
            for (int i = 0; i < CELLS; i++) {
                if (thickness[i] >= 0 && strain[i] >= 1 && wasCrackedBeside(i)) {
                    cracked[i] = true;
                }
            }
        }

        private boolean wasCrackedBeside(int cell) {
            for (int side = 0; side < SIDES; side++) {
                int next = beside(cell, side);
                if (isCell(next) && crackedBefore[next]) {
                    return true;
                }
            }
            return false;
        }

        int iceCells() {
            int cells = 0;
            for (int i = 0; i < CELLS; i++) {
                cells += thickness[i] >= 0 ? 1 : 0;
            }
            return cells;
        }

        int crackedCells() {
            int cells = 0;
            for (int i = 0; i < CELLS; i++) {
                cells += cracked[i] ? 1 : 0;
            }
            return cells;
        }

        int allThickness() {
            int sum = 0;
            for (int i = 0; i < CELLS; i++) {
                sum += Math.max(0, thickness[i]);
            }
            return sum;
        }

        long digestInto(long before) {
            long d = before;
            for (int i = 0; i < DAYS; i++) {
                d = d * 31 + cold[i];
            }
            for (int i = 0; i < CELLS; i++) {
                d = d * 31 + thickness[i];
                d = d * 31 + snow[i];
                d = d * 31 + strain[i];
                d = d * 31 + (cracked[i] ? 1 : 0);
            }
            return d;
        }
    }

    private static final class Sleigh {
        private int reindeer;
        private int mail;
        private int tired;
        private int state;
        private int cell;
        private int post;
        private int next;
        private int hoursLeft;
        /** The lake's openings when it last looked for a way in vain. */
        private int noWayAt;

        void begin(int atPost, int onCell, int drawnBy) {
            reindeer = drawnBy;
            state = RESTS;
            cell = onCell;
            post = atPost;
            next = NONE;
        }

        void copySleigh(Sleigh other) {
            reindeer = other.reindeer;
            mail = other.mail;
            tired = other.tired;
            state = other.state;
            cell = other.cell;
            post = other.post;
            next = other.next;
            hoursLeft = other.hoursLeft;
            // The openings of its own lake are counted, not those of the other one's.
            noWayAt = NONE;
        }

        int weight() {
            return 40 + 30 * reindeer + mail;
        }

        int need() {
            return thicknessFor(weight());
        }

        int ownDrag() {
            return drag(weight(), reindeer, tired);
        }

        void depart(int toPost) {
            state = UNDER_WAY;
            post = toPost;
            noWayAt = NONE;
        }

        boolean isBetween() {
            return state == UNDER_WAY && hoursLeft > 0;
        }

        void sink() {
            state = SUNK;
            mail = 0;
            post = NONE;
            next = NONE;
            hoursLeft = 0;
        }

        void beginToGo(int toCell, int hours) {
            next = toCell;
            hoursLeft = hours;
        }

        /** Goes on for an hour, and answers whether it came to a cell in it. */
        boolean comesOn() {
            hoursLeft--;
            if (hoursLeft > 0) {
                return false;
            }
            cell = next;
            next = NONE;
            tired = Math.min(MOST_TIRED, tired + 1);
            return true;
        }

        void restAtGoal() {
            state = RESTS;
            mail = 0;
        }

        void recover() {
            tired = Math.max(0, tired - 2);
        }
    }

    private static final class Bag {
        private int weight;
        private int goal;
        private int state;
        private int place;
        private int cameIn;

        void begin(int from, int to, int heavy) {
            weight = heavy;
            goal = to;
            state = WAITS;
            place = from;
            cameIn = NONE;
        }

        boolean isOn(int sleigh) {
            return state == ON_SLEIGH && place == sleigh;
        }

        void lose() {
            state = LOST;
            place = NONE;
        }

        /** Is put down at a post, and answers whether it has come with that. */
        boolean putDown(int post, int hour) {
            place = post;
            if (post != goal) {
                state = WAITS;
                return false;
            }
            state = COME;
            cameIn = hour;
            return true;
        }

        int tell(int what) {
            switch (what) {
                case 0:
                    return weight;
                case 1:
                    return goal;
                case 2:
                    return state;
                case 3:
                    return place;
                default:
                    return cameIn;
            }
        }
    }

    /**
     * Looks for ways backwards, from the goal. A cell's hours count on entering it, whichever side it is
     * entered from; so the first neighbour that reaches a cell reaches it with the fewest hours, and each
     * cell stands in the queue once.
     */
    private static final class Ways {
        /** More than any cell takes (9 for snow, 33 for weight, 1 for a tired sleigh), and a power of 2. */
        private static final int QUEUES = 64;

        private final int[] hours = new int[CELLS];
        private final int[] head = new int[QUEUES];
        private final int[] follower = new int[CELLS];
        private int waiting;
        private Lake lake;
        private int need;
        private int drag;

        /** The fewest hours from a cell to another one, NONE without a way. */
        int look(Lake over, int from, int to, int needed, int dragging) {
            lake = over;
            need = needed;
            drag = dragging;
            waiting = 0;
            Arrays.fill(hours, NONE);
            Arrays.fill(head, NONE);
            reach(to, 0);
            if (!isCell(from)) {
                return NONE;
            }
            for (int hour = 0; hour < CELLS * QUEUES && waiting > 0 && hours[from] == NONE; hour++) {
                spread(hour);
            }
            return hours[from];
        }

        /** The cell with which the way that was looked for begins: the first side has the smallest number. */
        int firstFrom(int from) {
            if (!isCell(from) || lake == null || hours[from] == NONE) {
                return NONE;
            }
            for (int side = 0; side < SIDES; side++) {
                int next = beside(from, side);
                if (isCell(next) && hours[next] != NONE && lake.holds(next, need)
                        && hours[next] + lake.snowOf(next) + drag == hours[from]) {
                    return next;
                }
            }
            return NONE;
        }

        private void reach(int cell, int hour) {
            if (!isCell(cell) || hours[cell] != NONE || lake == null) {
                return;
            }
            hours[cell] = hour;
            if (lake.holds(cell, need)) {
                int queue = (hour + lake.snowOf(cell) + drag) & (QUEUES - 1);
                follower[cell] = head[queue];
                head[queue] = cell;
                waiting++;
            }
        }

        private void spread(int hour) {
            int queue = hour & (QUEUES - 1);
            int cell = head[queue];
            head[queue] = NONE;
            for (int i = 0; i < CELLS && isCell(cell); i++) {
                waiting--;
                for (int side = 0; side < SIDES; side++) {
                    reach(beside(cell, side), hour);
                }
                cell = follower[cell];
            }
        }
    }

    /** All that hours change: the lake, the posts on it, the sleighs and their mail. */
    private static final class World {
        private final Ways ways = new Ways();
        private final Lake lake = new Lake();
        private final int[] postCell = new int[MOST_POSTS];
        private final Sleigh[] sleighs = new Sleigh[MOST_SLEIGHS];
        private final Bag[] bags = new Bag[MOST_BAGS];
        private int posts;
        private int sleighCount;
        private int bagCount;
        private int hour;

        World() {
            for (int i = 0; i < MOST_SLEIGHS; i++) {
                sleighs[i] = new Sleigh();
            }
            for (int i = 0; i < MOST_BAGS; i++) {
                bags[i] = new Bag();
            }
        }

        /** Bags are left out: what goes on with sleighs needs their weight alone, which each sleigh knows. */
        void copyWithoutBags(World other) {
            lake.copyLake(other.lake);
            System.arraycopy(other.postCell, 0, postCell, 0, MOST_POSTS);
            posts = other.posts;
            sleighCount = other.sleighCount;
            hour = other.hour;
            for (int i = 0; i < MOST_SLEIGHS; i++) {
                Sleigh mine = sleighAt(i);
                Sleigh theirs = other.sleighAt(i);
                if (mine != null && theirs != null) {
                    mine.copySleigh(theirs);
                }
            }
        }

        boolean isPost(int post) {
            return post >= 0 && post < posts && post < MOST_POSTS;
        }

        int cellOfPost(int post) {
            return isPost(post) ? postCell[post] : NONE;
        }

        int postOn(int cell) {
            for (int i = 0; i < MOST_POSTS; i++) {
                if (i < posts && postCell[i] == cell) {
                    return i;
                }
            }
            return NONE;
        }

        Sleigh sleighAt(int number) {
            return number >= 0 && number < sleighCount && number < MOST_SLEIGHS ? sleighs[number] : null;
        }

        Bag bagAt(int number) {
            return number >= 0 && number < bagCount && number < MOST_BAGS ? bags[number] : null;
        }

        int buildPost(int cell) {
            if (posts < 0 || posts >= MOST_POSTS) {
                return NONE;
            }
            postCell[posts] = cell;
            lake.lay(cell, LAND);
            posts++;
            return posts - 1;
        }

        int harness(int post, int reindeer) {
            Sleigh next = sleighCount >= 0 && sleighCount < MOST_SLEIGHS ? sleighs[sleighCount] : null;
            if (next == null) {
                return NONE;
            }
            next.begin(post, cellOfPost(post), reindeer);
            sleighCount++;
            return sleighCount - 1;
        }

        int postMail(int from, int to, int weight) {
            Bag next = bagCount >= 0 && bagCount < MOST_BAGS ? bags[bagCount] : null;
            if (next == null) {
                return NONE;
            }
            next.begin(from, to, weight);
            bagCount++;
            return bagCount - 1;
        }

        /** Whether a post, or a sleigh that is not sunk, is in a rectangle. */
        boolean isTaken(int x, int y, int wide, int deep) {
            for (int row = y; row < y + deep; row++) {
                for (int column = x; column < x + wide; column++) {
                    int cell = numberOf(column, row);
                    if (postOn(cell) != NONE || sleighsOn(cell) > 0) {
                        return true;
                    }
                }
            }
            return false;
        }

        int sleighsOn(int cell) {
            int found = 0;
            for (int i = 0; i < MOST_SLEIGHS; i++) {
                Sleigh sleigh = sleighAt(i);
                if (sleigh != null && sleigh.state != SUNK && sleigh.cell == cell) {
                    found++;
                }
            }
            return found;
        }

        int bagsOn(int sleigh) {
            int found = 0;
            for (int i = 0; i < MOST_BAGS; i++) {
                Bag bag = bagAt(i);
                if (bag != null && bag.isOn(sleigh)) {
                    found++;
                }
            }
            return found;
        }

        int hoursToGoal(Sleigh sleigh) {
            return ways.look(lake, sleigh.cell, cellOfPost(sleigh.post), sleigh.need(), sleigh.ownDrag());
        }

        /** Lets an hour go by, and answers how many bags came in it. */
        int goOneHour() {
            if (hour % HOURS_OF_A_DAY == 0) {
                lake.beginDay(hour / HOURS_OF_A_DAY);
            }
            sinkSleighs();
            int came = moveSleighs();
            setOutSleighs();
            restSleighs();
            hour++;
            return came;
        }

        private void sinkSleighs() {
            for (int i = 0; i < MOST_SLEIGHS; i++) {
                Sleigh sleigh = sleighAt(i);
                if (sleigh != null && sleigh.state != SUNK && !lake.holds(sleigh.cell, sleigh.need())) {
                    sleigh.sink();
                    loseMailOf(i);
                }
            }
        }

        private void loseMailOf(int sleigh) {
            for (int i = 0; i < MOST_BAGS; i++) {
                Bag bag = bagAt(i);
                if (bag != null && bag.isOn(sleigh)) {
                    bag.lose();
                }
            }
        }

        private int moveSleighs() {
            int came = 0;
            for (int i = 0; i < MOST_SLEIGHS; i++) {
                Sleigh sleigh = sleighAt(i);
                if (sleigh != null && sleigh.isBetween() && sleigh.comesOn()
                        && sleigh.cell == cellOfPost(sleigh.post)) {
                    sleigh.restAtGoal();
                    came += unload(i, sleigh.post);
                }
            }
            return came;
        }

        private int unload(int sleigh, int post) {
            int came = 0;
            for (int i = 0; i < MOST_BAGS; i++) {
                Bag bag = bagAt(i);
                if (bag != null && bag.isOn(sleigh) && bag.putDown(post, hour)) {
                    came++;
                }
            }
            return came;
        }

        private void setOutSleighs() {
            for (int i = 0; i < MOST_SLEIGHS; i++) {
                Sleigh sleigh = sleighAt(i);
                if (sleigh != null && sleigh.state == UNDER_WAY && !sleigh.isBetween()
                        && sleigh.noWayAt != lake.openings) {
                    int need = sleigh.need();
                    int drag = sleigh.ownDrag();
                    ways.look(lake, sleigh.cell, cellOfPost(sleigh.post), need, drag);
                    int next = ways.firstFrom(sleigh.cell);
                    if (next == NONE) {
                        sleigh.noWayAt = lake.openings;
                    } else {
                        sleigh.beginToGo(next, lake.snowOf(next) + drag);
                        lake.strainUnder(sleigh.cell, need);
                    }
                }
            }
        }

        private void restSleighs() {
            for (int i = 0; i < MOST_SLEIGHS; i++) {
                Sleigh sleigh = sleighAt(i);
                if (sleigh != null && sleigh.state == RESTS) {
                    sleigh.recover();
                }
            }
        }

        int tellCell(int cell, int what) {
            switch (what) {
                case 0:
                    return lake.thicknessOf(cell);
                case 1:
                    return lake.snowOf(cell);
                case 2:
                    return lake.strainOf(cell);
                case 3:
                    return lake.isCracked(cell) ? 1 : 0;
                case 4:
                    return postOn(cell);
                default:
                    return sleighsOn(cell);
            }
        }

        int tellSleigh(int number, int what) {
            Sleigh sleigh = sleighAt(number);
            if (sleigh == null) {
                return NONE;
            }
            switch (what) {
                case 0:
                    return sleigh.reindeer;
                case 1:
                    return sleigh.weight();
                case 2:
                    return sleigh.tired;
                case 3:
                    return sleigh.state;
                case 4:
                    return sleigh.cell;
                case 5:
                    return sleigh.post;
                case 6:
                    return sleigh.hoursLeft;
                case 7:
                    return sleigh.need();
                default:
                    return bagsOn(number);
            }
        }

        int tellCount(int what) {
            switch (what) {
                case 0:
                    return hour;
                case 1:
                    return posts;
                case 2:
                    return sleighCount;
                case 3:
                    return sunkSleighs();
                case 4:
                    return bagCount;
                case 5:
                    return bagsThat(COME);
                case 6:
                    return bagsThat(LOST);
                case 7:
                    return lake.crackedCells();
                default:
                    return lake.allThickness();
            }
        }

        private int sunkSleighs() {
            int found = 0;
            for (int i = 0; i < MOST_SLEIGHS; i++) {
                Sleigh sleigh = sleighAt(i);
                if (sleigh != null && sleigh.state == SUNK) {
                    found++;
                }
            }
            return found;
        }

        private int bagsThat(int state) {
            int found = 0;
            for (int i = 0; i < MOST_BAGS; i++) {
                Bag bag = bagAt(i);
                if (bag != null && bag.state == state) {
                    found++;
                }
            }
            return found;
        }

        long digestPosts(long before) {
            long d = before;
            for (int i = 0; i < MOST_POSTS; i++) {
                if (i < posts) {
                    d = d * 31 + postCell[i];
                }
            }
            return d;
        }

        long digestSleighs(long before) {
            long d = before;
            for (int i = 0; i < MOST_SLEIGHS; i++) {
                for (int what = 0; sleighAt(i) != null && what < SLEIGH_ANSWERS; what++) {
                    d = d * 31 + tellSleigh(i, what);
                }
            }
            return d;
        }

        long digestBags(long before) {
            long d = before;
            for (int i = 0; i < MOST_BAGS; i++) {
                Bag bag = bagAt(i);
                for (int what = 0; bag != null && what < BAG_ANSWERS; what++) {
                    d = d * 31 + bag.tell(what);
                }
            }
            return d;
        }
    }
}
