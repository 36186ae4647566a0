/** Promises 1 to 5 and 19: each sentence that names a bound has a test of its own. */
final class IceBounds {
    private static final int LEAST = Integer.MIN_VALUE;
    private static final int MOST = Integer.MAX_VALUE;

    private final Checks checks;

    IceBounds(Checks checks) {
        this.checks = checks;
    }

    void run() {
        nothingIsThere();
        newCells();
        newCold();
        objectsAreApart();
        iceColumns();
        iceRows();
        iceWide();
        iceDeep();
        iceThickness();
        iceAnswer();
        iceIsAllThere();
        iceWrapsAround();
        iceOutsideStays();
        iceHasNoStrainAndCracks();
        iceOnPosts();
        iceOnSleighs();
        iceBetweenTwo();
        iceOnSunkSleighs();
        iceNamesTheFirst();
        snowColumns();
        snowRows();
        snowBounds();
        snowBefore();
        snowFromNowOn();
        snowNamesTheFirst();
        coldDays();
        coldBounds();
        coldBefore();
        coldNamesTheFirst();
        cellColumns();
        cellRows();
        cellQuestions();
        cellThickness();
        cellPosts();
        cellSleighs();
        cellIsCracked();
        meanWithoutIce();
        meanOfAll();
    }

    // ---- promise 1

    private void nothingIsThere() {
        checks.sentence(1, "Creates a lake of ice without posts and sleighs, at the hour 0.");
        SleighPost post = new SleighPost();
        int[] due = {0, 0, 0, 0, 0, 0, 0, 0, 160 * 30};
        for (int what = 0; what < due.length; what++) {
            checks.same("count " + what, post.count(what), due[what]);
        }
        checks.index("a sleigh at the post 0", post, () -> post.addSleigh(0, 1));
        checks.index("a bag from the post 0", post, () -> post.addBag(0, 1, 1));
        checks.index("a bag on the sleigh 0", post, () -> post.load(0, 0));
        checks.index("the sleigh 0 to the post 0", post, () -> post.send(0, 0));
        checks.index("the sleigh 0", post, () -> post.sleigh(0, 0));
        checks.index("the bag 0", post, () -> post.bag(0, 0));
        checks.index("a way from the post 0", post, () -> post.way(0, 0, 1, 1));
        checks.index("what bears from the post 0", post, () -> post.bears(0, 0));
        checks.index("foresee the sleigh 0", post, () -> post.foresee(0, 1));
        checks.index("when the sleigh 0 arrives", post, () -> post.arrives(0));
        checks.same("mean", post.mean(), 30);
        checks.same("nothing comes", post.pass(200), 0);
        checks.same("the first post", post.addPost(0, 0), 0);
    }

    private void newCells() {
        checks.sentence(0, "or ice (ice, at first) with a thickness, 0 to 200 (30, at first), strain, 0 to 9 (0, at first), "
                + "and cracked or not (not, at first). It has snow, 1 to 9 (1, at first).");
        int[] due = {30, 1, 0, 0, -1, 0};
        for (int y = 0; y < 10; y++) {
            SleighPost post = new SleighPost();
            for (int x = 0; x < 16; x++) {
                for (int what = 0; what < due.length; what++) {
                    checks.same("cell " + x + " " + y + " " + what, post.cell(x, y, what), due[what]);
                }
            }
        }
    }

    private void newCold() {
        checks.sentence(0, "how cold it is, -9 to 9 (5, at first; less than 0 is thaw)");
        SleighPost post = new SleighPost();
        for (int day = 0; day < 8; day++) {
            checks.same("day " + day, post.setCold(day, 0), 5);
        }
    }

    private void objectsAreApart() {
        checks.sentence(1, "Creates a lake of ice without posts and sleighs, at the hour 0.");
        SleighPost one = new SleighPost();
        long before = one.digest();
        SleighPost other = Lakes.cracked();
        other.setSnow(0, 0, 9);
        checks.same("a second object's hour", other.count(0), 22);
        checks.sameLong("the first object's digest", one.digest(), before);
    }

    // ---- promise 2

    private void iceColumns() {
        checks.sentence(2, "its first column");
        SleighPost post = new SleighPost();
        checks.same("0", post.setIce(0, 4, 1, 1, 7), 1);
        checks.same("15", post.setIce(15, 4, 1, 1, 8), 1);
        checks.same("the first column's thickness", post.cell(0, 4, 0), 7);
        checks.same("the last column's thickness", post.cell(15, 4, 0), 8);
        for (int x : new int[] {-1, 16, LEAST, MOST}) {
            checks.argument("" + x, post, () -> post.setIce(x, 4, 1, 1, 9));
        }
    }

    private void iceRows() {
        checks.sentence(2, "its first row");
        SleighPost post = new SleighPost();
        checks.same("0", post.setIce(4, 0, 1, 1, 7), 1);
        checks.same("9", post.setIce(4, 9, 1, 1, 8), 1);
        checks.same("the first row's thickness", post.cell(4, 0, 0), 7);
        checks.same("the last row's thickness", post.cell(4, 9, 0), 8);
        for (int y : new int[] {-1, 10, 15, LEAST, MOST}) {
            checks.argument("" + y, post, () -> post.setIce(4, y, 1, 1, 9));
        }
    }

    private void iceWide() {
        checks.sentence(2, "how many columns");
        SleighPost post = new SleighPost();
        checks.same("1", post.setIce(3, 0, 1, 1, 7), 1);
        checks.same("16", post.setIce(0, 1, 16, 1, 7), 16);
        checks.same("13 from the column 3 on", post.setIce(3, 2, 13, 1, 7), 13);
        checks.sentence(2, "wide or deep is less than 1");
        for (int wide : new int[] {0, -1, -15, LEAST}) {
            checks.argument("wide " + wide, post, () -> post.setIce(15, 4, wide, 1, 9));
        }
    }

    private void iceDeep() {
        checks.sentence(2, "how many rows");
        SleighPost post = new SleighPost();
        checks.same("1", post.setIce(0, 3, 1, 1, 7), 1);
        checks.same("10", post.setIce(1, 0, 1, 10, 7), 10);
        checks.same("7 from the row 3 on", post.setIce(2, 3, 1, 7, 7), 7);
        checks.sentence(2, "wide or deep is less than 1");
        for (int deep : new int[] {0, -1, -9, LEAST}) {
            checks.argument("deep " + deep, post, () -> post.setIce(4, 9, 1, deep, 9));
        }
    }

    private void iceThickness() {
        checks.sentence(2, "the thickness; -1 for land");
        SleighPost post = new SleighPost();
        for (int thickness : new int[] {-1, 0, 1, 199, 200}) {
            checks.same("" + thickness, post.setIce(0, 0, 1, 1, thickness), 1);
            checks.same("told as", post.cell(0, 0, 0), thickness);
            checks.same("all ice", post.count(8), 159 * 30 + Math.max(0, thickness));
        }
        checks.sentence(2, "thickness is not -1 to 200");
        for (int thickness : new int[] {-2, 201, LEAST, MOST}) {
            checks.argument("" + thickness, post, () -> post.setIce(0, 0, 1, 1, thickness));
        }
    }

    private void iceAnswer() {
        checks.sentence(2, "Returns how many cells these are.");
        SleighPost post = new SleighPost();
        checks.same("one", post.setIce(15, 9, 1, 1, 0), 1);
        checks.same("a rectangle", post.setIce(5, 2, 3, 7, 0), 21);
        checks.same("all", post.setIce(0, 0, 16, 10, 0), 160);
        checks.same("all, to land", post.setIce(0, 0, 16, 10, -1), 160);
        checks.same("all, which are land, once more", post.setIce(0, 0, 16, 10, -1), 160);
    }

    private void iceIsAllThere() {
        checks.sentence(2, "it is not all there");
        SleighPost post = new SleighPost();
        int[][] over = {
            {0, 0, 17, 1}, {1, 0, 16, 1}, {15, 0, 2, 1}, {0, 0, 1, 11}, {0, 1, 1, 10}, {0, 9, 1, 2},
            {-1, 0, 2, 1}, {0, -1, 1, 2}, {-1, -1, 17, 11}, {0, 0, 17, 11}, {0, 0, 10, 16},
        };
        for (int[] a : over) {
            checks.argument(java.util.Arrays.toString(a), post, () -> post.setIce(a[0], a[1], a[2], a[3], 5));
            checks.argument(java.util.Arrays.toString(a) + ", land", post,
                    () -> post.setIce(a[0], a[1], a[2], a[3], -1));
        }
    }

    /** Sums that are too great for 32 bits would look like cells that are there. */
    private void iceWrapsAround() {
        checks.sentence(2, "it is not all there");
        SleighPost post = new SleighPost();
        int[][] over = {
            {1, 0, MOST, 1}, {15, 0, MOST, 1}, {0, 1, 1, MOST}, {0, 9, 1, MOST}, {1, 1, MOST, MOST},
            {MOST, 0, MOST, 1}, {MOST, 0, 1, 1}, {0, MOST, 1, MOST}, {LEAST, 0, MOST, 1}, {LEAST, LEAST, MOST, MOST},
            {0, 0, 65536, 65536}, {0, 1 << 28, 1, 1},
        };
        for (int[] a : over) {
            checks.argument(java.util.Arrays.toString(a), post, () -> post.setIce(a[0], a[1], a[2], a[3], 5));
        }
    }

    private void iceOutsideStays() {
        checks.sentence(2, "Makes a rectangle of cells land, or ice of a thickness (without strain and cracks).");
        for (int y = 0; y < 10; y++) {
            SleighPost post = new SleighPost();
            post.setIce(2, 3, 4, 5, 77);
            for (int x = 0; x < 16; x++) {
                boolean inside = x >= 2 && x <= 5 && y >= 3 && y <= 7;
                checks.same("cell " + x + " " + y, post.cell(x, y, 0), inside ? 77 : 30);
            }
        }
    }

    private void iceHasNoStrainAndCracks() {
        checks.sentence(2, "Makes a rectangle of cells land, or ice of a thickness (without strain and cracks).");
        for (int thickness = -1; thickness <= 50; thickness += 51) {
            SleighPost post = Lakes.cracked();
            checks.same("strain ahead of it", post.cell(1, 5, 2), 3);
            checks.same("cracked ahead of it", post.cell(1, 5, 3), 1);
            post.setSnow(1, 5, 6);
            checks.same("setIce " + thickness, post.setIce(1, 5, 2, 1, thickness), 2);
            checks.same("its thickness", post.cell(1, 5, 0), thickness);
            checks.same("its snow stays", post.cell(1, 5, 1), 6);
            checks.same("its strain", post.cell(1, 5, 2), 0);
            checks.same("cracked", post.cell(1, 5, 3), 0);
            checks.same("the strain of the second cell", post.cell(2, 5, 2), 0);
            checks.same("the strain beside them", post.cell(3, 5, 2), 2);
            checks.same("cracked cells", post.count(7), 0);
        }
    }

    private void iceOnPosts() {
        checks.sentence(2, "if ice was told, and there is a post on one of them");
        int[][] corners = {{4, 3}, {7, 3}, {4, 5}, {7, 5}, {5, 4}};
        for (int[] corner : corners) {
            SleighPost post = new SleighPost();
            post.addPost(0, 0);
            post.addPost(corner[0], corner[1]);
            checks.state("0 on a post", post, () -> post.setIce(4, 3, 4, 3, 0));
            checks.state("200 on a post", post, () -> post.setIce(4, 3, 4, 3, 200));
            checks.same("land is allowed", post.setIce(4, 3, 4, 3, -1), 12);
            checks.same("the post stays", post.cell(corner[0], corner[1], 4), 1);
        }
        SleighPost post = new SleighPost();
        for (int[] a : new int[][] {{3, 3}, {8, 3}, {3, 5}, {8, 5}, {4, 2}, {7, 2}, {4, 6}, {7, 6}}) {
            post.addPost(a[0], a[1]);
        }
        checks.same("posts beside it", post.setIce(4, 3, 4, 3, 40), 12);
    }

    private void iceOnSleighs() {
        checks.sentence(2, "or a sleigh that is not sunk");
        SleighPost post = Lakes.corridor(4, 30);
        post.addSleigh(0, 6);
        post.send(0, 1);
        post.pass(3);
        checks.same("the sleigh is on", post.sleigh(0, 4), 2 + 16 * 5);
        checks.state("ice under it", post, () -> post.setIce(2, 5, 1, 1, 30));
        checks.state("ice of 0 under it", post, () -> post.setIce(2, 5, 1, 1, 0));
        checks.state("the first column of several", post, () -> post.setIce(2, 4, 2, 3, 30));
        checks.state("the last column of several", post, () -> post.setIce(1, 4, 2, 2, 30));
        checks.same("ice on its left", post.setIce(1, 5, 1, 1, 30), 1);
        checks.same("ice on its right", post.setIce(3, 5, 1, 1, 30), 1);
        checks.same("ice above it", post.setIce(2, 4, 1, 1, 30), 1);
        checks.same("ice below it", post.setIce(2, 6, 1, 1, 30), 1);
        checks.same("land under it", post.setIce(2, 5, 1, 1, -1), 1);
        checks.state("ice on this land, which has no post", post, () -> post.setIce(2, 5, 1, 1, 30));
        post.pass(1);
        checks.same("it goes on", post.sleigh(0, 4), 3 + 16 * 5);
        checks.same("ice where it was", post.setIce(2, 5, 1, 1, 30), 1);
    }

    private void iceBetweenTwo() {
        checks.sentence(0, "While it is between two cells, it counts as on the one that it left (for sinking, too).");
        SleighPost post = Lakes.corridor(4, 30);
        post.addSleigh(0, 1);
        post.setSnow(2, 5, 5);
        post.send(0, 1);
        post.pass(4);
        checks.same("it is between two", post.sleigh(0, 6), 5);
        checks.same("on the one that it left", post.cell(1, 5, 5), 1);
        checks.same("not on the next one", post.cell(2, 5, 5), 0);
        checks.state("ice on the one that it left", post, () -> post.setIce(1, 5, 1, 1, 30));
        checks.same("ice on the next one", post.setIce(2, 5, 1, 1, 30), 1);
    }

    private void iceOnSunkSleighs() {
        checks.sentence(2, "or a sleigh that is not sunk");
        SleighPost post = Lakes.cracked();
        checks.same("it is sunk", post.sleigh(0, 3), 2);
        checks.same("there", post.sleigh(0, 4), 1 + 16 * 5);
        checks.same("ice over it", post.setIce(1, 5, 1, 1, 200), 1);
        checks.same("it is sunk all the same", post.sleigh(0, 3), 2);
    }

    private void iceNamesTheFirst() {
        checks.sentence(0, "If several exceptions apply, the one that is named first is thrown.");
        SleighPost post = new SleighPost();
        post.addPost(0, 0);
        checks.argument("setIce 201 on a post", post, () -> post.setIce(0, 0, 1, 1, 201));
        checks.argument("setIce -2 on a post", post, () -> post.setIce(0, 0, 1, 1, -2));
        checks.argument("setIce of no columns on a post", post, () -> post.setIce(0, 0, 0, 1, 5));
        checks.argument("setIce over the edge on a post", post, () -> post.setIce(0, 0, 17, 1, 5));
    }

    // ---- promise 3

    private void snowColumns() {
        checks.sentence(3, "a column");
        SleighPost post = new SleighPost();
        checks.same("0", post.setSnow(0, 4, 2), 1);
        checks.same("15", post.setSnow(15, 4, 3), 1);
        checks.same("snow in the column 0", post.cell(0, 4, 1), 2);
        checks.same("snow in the column 15", post.cell(15, 4, 1), 3);
        checks.sentence(3, "if there is no such cell");
        for (int x : new int[] {-1, 16, LEAST, MOST}) {
            checks.index("x " + x, post, () -> post.setSnow(x, 4, 5));
        }
    }

    private void snowRows() {
        checks.sentence(3, "a row");
        SleighPost post = new SleighPost();
        checks.same("0", post.setSnow(4, 0, 2), 1);
        checks.same("9", post.setSnow(4, 9, 3), 1);
        checks.same("snow in the row 0", post.cell(4, 0, 1), 2);
        checks.same("snow in the row 9", post.cell(4, 9, 1), 3);
        checks.sentence(3, "if there is no such cell");
        for (int y : new int[] {-1, 10, 15, LEAST, MOST}) {
            checks.index("y " + y, post, () -> post.setSnow(4, y, 5));
        }
    }

    private void snowBounds() {
        checks.sentence(3, "if snow is not 1 to 9");
        SleighPost post = new SleighPost();
        for (int snow : new int[] {9, 1, 2, 8}) {
            post.setSnow(3, 3, snow);
            checks.same("" + snow, post.cell(3, 3, 1), snow);
        }
        for (int snow : new int[] {0, 10, -1, LEAST, MOST}) {
            checks.argument("" + snow, post, () -> post.setSnow(3, 3, snow));
        }
    }

    private void snowBefore() {
        checks.sentence(3, "Returns the snow before.");
        SleighPost post = new SleighPost();
        checks.same("at first", post.setSnow(3, 3, 9), 1);
        checks.same("then", post.setSnow(3, 3, 9), 9);
        checks.same("then", post.setSnow(3, 3, 1), 9);
        checks.same("of the cell beside it", post.setSnow(4, 3, 5), 1);
        post.addPost(4, 3);
        checks.same("of a post", post.setSnow(4, 3, 2), 5);
    }

    private void snowFromNowOn() {
        checks.sentence(3, "the snow that it has from now on");
        SleighPost post = Lakes.corridor(3, -1);
        post.addSleigh(0, 6);
        post.send(0, 1);
        post.pass(1);
        post.setSnow(1, 5, 9);
        checks.same("a sleigh that goes there took the hours before", post.sleigh(0, 6), 1);
        checks.same("a way takes those of now", post.way(0, 1, 1, 1), 11);
        post.pass(200);
        checks.same("no hour takes snow away", post.cell(1, 5, 1), 9);
    }

    private void snowNamesTheFirst() {
        checks.sentence(0, "If several exceptions apply, the one that is named first is thrown.");
        SleighPost post = new SleighPost();
        checks.index("setSnow of 0 in the column 16", post, () -> post.setSnow(16, 0, 0));
        checks.index("setSnow of 10 in the row -1", post, () -> post.setSnow(0, -1, 10));
    }

    // ---- promise 4

    private void coldDays() {
        checks.sentence(4, "the day, 0 to 7");
        SleighPost post = new SleighPost();
        checks.same("0", post.setCold(0, 1), 5);
        checks.same("7", post.setCold(7, 2), 5);
        checks.same("0 again", post.setCold(0, 3), 1);
        checks.same("7 again", post.setCold(7, 3), 2);
        checks.sentence(4, "if day is not 0 to 7");
        for (int day : new int[] {-1, 8, -8, 16, LEAST, MOST}) {
            checks.index("" + day, post, () -> post.setCold(day, 0));
        }
    }

    private void coldBounds() {
        checks.sentence(4, "how cold");
        SleighPost post = new SleighPost();
        post.setCold(3, -9);
        checks.same("-9", post.setCold(3, 9), -9);
        checks.same("9", post.setCold(3, 0), 9);
        checks.same("0", post.setCold(3, -1), 0);
        checks.sentence(4, "if cold is not -9 to 9");
        for (int cold : new int[] {-10, 10, LEAST, MOST}) {
            checks.argument("" + cold, post, () -> post.setCold(3, cold));
        }
    }

    private void coldBefore() {
        checks.sentence(4, "Returns how cold it was before.");
        SleighPost post = new SleighPost();
        checks.same("at first", post.setCold(6, -4), 5);
        checks.same("then", post.setCold(6, -4), -4);
        checks.same("then", post.setCold(6, 5), -4);
        checks.same("of the day after", post.setCold(7, 5), 5);
        checks.same("of the day ahead", post.setCold(5, 5), 5);
    }

    private void coldNamesTheFirst() {
        checks.sentence(0, "If several exceptions apply, the one that is named first is thrown.");
        SleighPost post = new SleighPost();
        checks.index("setCold of 10 on the day 8", post, () -> post.setCold(8, 10));
        checks.index("setCold of -10 on the day -1", post, () -> post.setCold(-1, -10));
    }

    // ---- promise 5

    private void cellColumns() {
        checks.sentence(5, "a column");
        SleighPost post = new SleighPost();
        post.setIce(0, 4, 1, 1, 7);
        post.setIce(15, 4, 1, 1, 8);
        checks.same("0", post.cell(0, 4, 0), 7);
        checks.same("15", post.cell(15, 4, 0), 8);
        checks.same("0 of the next row", post.cell(0, 5, 0), 30);
        checks.same("15 of the row ahead", post.cell(15, 3, 0), 30);
        checks.sentence(5, "if there is no such cell");
        for (int x : new int[] {-1, 16, LEAST, MOST}) {
            checks.index("x " + x, post, () -> post.cell(x, 4, 0));
        }
    }

    private void cellRows() {
        checks.sentence(5, "a row");
        SleighPost post = new SleighPost();
        post.setIce(4, 0, 1, 1, 7);
        post.setIce(4, 9, 1, 1, 8);
        checks.same("0", post.cell(4, 0, 0), 7);
        checks.same("9", post.cell(4, 9, 0), 8);
        checks.sentence(5, "if there is no such cell");
        for (int y : new int[] {-1, 10, 15, LEAST, MOST}) {
            checks.index("y " + y, post, () -> post.cell(4, y, 0));
        }
    }

    private void cellQuestions() {
        checks.sentence(5, "what is not 0 to 5");
        SleighPost post = new SleighPost();
        checks.same("0", post.cell(0, 0, 0), 30);
        checks.same("5", post.cell(0, 0, 5), 0);
        for (int what : new int[] {-1, 6, LEAST, MOST}) {
            checks.index("" + what, post, () -> post.cell(0, 0, what));
        }
    }

    private void cellThickness() {
        checks.sentence(5, "0 the thickness, -1 for land, 1 its snow, 2 its strain");
        SleighPost post = Lakes.cracked();
        post.setIce(9, 9, 1, 1, -1);
        post.setSnow(9, 9, 9);
        post.setSnow(2, 5, 4);
        int[] land = {-1, 9, 0, 0, -1, 0};
        int[] ice = {22, 4, 2, 0, -1, 0};
        for (int what = 0; what < 6; what++) {
            checks.same("land, " + what, post.cell(9, 9, what), land[what]);
            checks.same("ice, " + what, post.cell(2, 5, what), ice[what]);
        }
    }

    private void cellPosts() {
        checks.sentence(5, "4 its post, -1 for none");
        SleighPost post = new SleighPost();
        checks.same("none", post.cell(8, 0, 4), -1);
        for (int i = 0; i < 8; i++) {
            post.addPost(8 + i, i);
        }
        for (int i = 0; i < 8; i++) {
            checks.same("a post", post.cell(8 + i, i, 4), i);
        }
        checks.same("none beside it", post.cell(9, 0, 4), -1);
    }

    private void cellSleighs() {
        checks.sentence(5, "5 sleighs on it that are not sunk");
        SleighPost post = Lakes.corridor(4, 30);
        checks.same("none", post.cell(0, 5, 5), 0);
        for (int i = 1; i <= 5; i++) {
            post.addSleigh(0, 6);
            checks.same("sleighs at a post", post.cell(0, 5, 5), i);
        }
        post.send(0, 1);
        post.send(4, 1);
        post.pass(2);
        checks.same("those that rest", post.cell(0, 5, 5), 3);
        checks.same("those under way", post.cell(1, 5, 5), 2);
        post.setIce(2, 5, 1, 1, 0);
        post.pass(1);
        checks.same("on the thin ice", post.cell(2, 5, 5), 2);
        post.pass(1);
        checks.same("sunk", post.cell(2, 5, 5), 0);
    }

    private void cellIsCracked() {
        checks.sentence(5, "3 1 if it is cracked, else 0");
        SleighPost post = Lakes.cracked();
        checks.same("strain of 3", post.cell(1, 5, 3), 1);
        checks.same("strain of 2", post.cell(2, 5, 3), 0);
        checks.same("a post", post.cell(0, 5, 3), 0);
    }

    // ---- promise 19

    private void meanWithoutIce() {
        checks.sentence(19, "Returns the mean thickness of all ice cells; 0 if there are none.");
        SleighPost post = new SleighPost();
        post.setIce(0, 0, 16, 10, -1);
        checks.same("none", post.mean(), 0);
        checks.same("none, as a number above 0", 1 / post.mean(), Double.POSITIVE_INFINITY);
        post.setIce(15, 9, 1, 1, 0);
        checks.same("one of 0", post.mean(), 0);
        post.setIce(15, 9, 1, 1, 1);
        checks.same("one of 1", post.mean(), 1);
        post.setIce(0, 0, 1, 1, 0);
        checks.same("one of 1 and one of 0", post.mean(), 0.5);
    }

    private void meanOfAll() {
        checks.sentence(19, "Returns the mean thickness of all ice cells; 0 if there are none.");
        SleighPost post = new SleighPost();
        post.setIce(0, 0, 16, 10, 200);
        checks.same("160 of 200", post.mean(), 200);
        post.setIce(0, 0, 1, 1, 0);
        checks.same("159 of 200, one of 0", post.mean(), 31800.0 / 160.0);
        post.setIce(0, 0, 3, 1, -1);
        post.setIce(3, 0, 1, 1, 199);
        checks.same("156 of 200, one of 199", post.mean(), 31399.0 / 157.0);
    }
}
