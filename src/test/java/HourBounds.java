/** Promises 13 and 14, and how an hour goes (Terms): each sentence that names a bound has a test of its own. */
final class HourBounds {
    private static final int LEAST = Integer.MIN_VALUE;
    private static final int MOST = Integer.MAX_VALUE;

    private final Checks checks;

    HourBounds(Checks checks) {
        this.checks = checks;
    }

    void run() {
        passHours();
        passAnswer();
        passInTheLastHour();
        countQuestions();
        countAll();
        countAsManyAsThereCanBe();
        countCracked();
        countThickness();
        firstHourOfADay();
        tableByRemainder();
        tableAfterManyDays();
        growth();
        thicknessIsAtMost200();
        landDoesNotFreeze();
        strainInCold();
        strainInNoCold();
        thawThins();
        cracksSpreadInThawOnly();
        cracksSpreadFromOneOfStrain();
        cracksSpreadByWhatWasCracked();
        cracksSpreadSideBySide();
        cracksSpreadToAllSides();
        cracksSpreadOnIceOf0();
        cracksDoNotSpreadOverLand();
        cornersOfTheLake();
        cracksSpreadIntoCorners();
        sinkingByThickness();
        sinkingByCracks();
        sinkingAheadOfGoing();
        sinkingAfterThaw();
        sinkingAfterFrost();
        noSinkingOnLand();
        goingByNumbers();
        hoursToGo();
        tiredByCells();
        tiredAtMost100();
        tiredAtLeast0();
        restsInTheHourOfItsComing();
        mailComesOrWaits();
        looksInEachHour();
        looksByWhatBearsNow();
        setsOutByNumbers();
        strainByThickness();
        strainOfIceOf0();
        strainOnACrackedCell();
        strainOnLand();
        crackedFrom3();
        strainIsAtMost9();
        paceOfSnow();
        paceOfWeight();
        paceOfATiredOne();
        refusedCallsChangeNothing();
    }

    // ---- promise 13

    private void passHours() {
        checks.sentence(13, "how many");
        SleighPost post = new SleighPost();
        checks.same("1", post.pass(1), 0);
        checks.same("the hour", post.count(0), 1);
        checks.same("200", post.pass(200), 0);
        checks.same("the hour", post.count(0), 201);
        checks.sentence(13, "if hours is not 1 to 200");
        for (int hours : new int[] {0, 201, -1, LEAST, MOST}) {
            checks.argument("" + hours, post, () -> post.pass(hours));
        }
    }

    private void passAnswer() {
        checks.sentence(13, "Returns how many bags came in them.");
        SleighPost post = Lakes.corridor(3, -1);
        post.addPost(0, 0);
        post.addSleigh(0, 6);
        post.addSleigh(0, 6);
        for (int i = 0; i < 5; i++) {
            post.addBag(0, i == 0 ? 2 : 1, 1);
            post.load(i < 3 ? 0 : 1, i);
        }
        checks.same("none while all rest", post.pass(1), 0);
        post.send(0, 1);
        checks.same("none on the way", post.pass(3), 0);
        checks.same("two come, one waits", post.pass(1), 2);
        checks.same("none comes twice", post.pass(1), 0);
        post.send(1, 1);
        checks.same("two more", post.pass(200), 2);
        checks.same("in all", post.count(5), 4);
        checks.same("then none", post.pass(200), 0);
    }

    private void passInTheLastHour() {
        checks.sentence(13, "Returns how many bags came in them.");
        SleighPost post = slowSleigh(13, 200);
        checks.same("none in 200 hours", post.pass(200), 0);
        checks.same("40 in the hour 200", post.pass(1), 40);
        checks.same("the hour in which they came", post.bag(39, 4), 200);
        SleighPost sooner = slowSleigh(13, 199);
        checks.same("40 in the last of 200 hours", sooner.pass(200), 40);
        checks.same("the hour in which they came", sooner.bag(0, 4), 199);
    }

    /** A sleigh with 40 bags of 20 on a corridor of land that takes so many hours: 15 for each cell, and its snow. */
    static SleighPost slowSleigh(int cells, int hours) {
        SleighPost post = Lakes.corridor(cells, -1);
        post.addSleigh(0, 1);
        for (int i = 0; i < 40; i++) {
            post.addBag(0, 1, 20);
            post.load(0, i);
        }
        int more = hours - 15 * cells;
        for (int x = 1; x <= cells; x++) {
            post.setSnow(x, 5, 1 + Math.min(8, more));
            more -= Math.min(8, more);
        }
        post.send(0, 1);
        return post;
    }

    // ---- promise 14

    private void countQuestions() {
        checks.sentence(14, "if what is not 0 to 8");
        SleighPost post = new SleighPost();
        checks.same("0", post.count(0), 0);
        checks.same("8", post.count(8), 4800);
        for (int what : new int[] {-1, 9, LEAST, MOST}) {
            checks.index("" + what, post, () -> post.count(what));
        }
    }

    private void countAll() {
        checks.sentence(14, "0 the hour, 1 posts, 2 sleighs, 3 those that are sunk, 4 bags, "
                + "5 those that have come, 6 those that are lost");
        SleighPost post = Lakes.corridor(4, 30);
        for (int i = 2; i < 8; i++) {
            post.addPost(i, 0);
        }
        for (int i = 0; i < 5; i++) {
            post.addSleigh(i < 3 ? 0 : 1, 6);
        }
        for (int i = 0; i < 40; i++) {
            post.addBag(i < 30 ? 0 : 1, i < 30 ? 1 : 0, 1);
            post.load(i < 20 ? i / 10 : i < 30 ? 2 : 3 + i % 2, i);
        }
        post.send(3, 0);
        post.send(4, 0);
        checks.same("ten come", post.pass(10), 10);
        post.send(0, 1);
        post.send(1, 1);
        post.pass(1);
        post.setIce(1, 5, 1, 1, 0);
        checks.same("two sink", post.pass(2), 0);
        int[] due = {13, 8, 5, 2, 40, 10, 20, 0, 60};
        for (int what = 0; what < due.length; what++) {
            checks.same("count " + what, post.count(what), due[what]);
        }
    }

    private void countAsManyAsThereCanBe() {
        checks.sentence(14, "3 those that are sunk, 4 bags, 5 those that have come, 6 those that are lost");
        SleighPost post = Lakes.corridor(4, 30);
        for (int i = 0; i < 5; i++) {
            post.addSleigh(0, 1);
        }
        for (int i = 0; i < 40; i++) {
            post.addBag(0, 1, 1);
            post.load(i % 5, i);
        }
        for (int i = 0; i < 5; i++) {
            post.send(i, 1);
        }
        post.pass(1);
        post.setIce(1, 5, 1, 1, 0);
        checks.same("none comes", post.pass(200), 0);
        int[] due = {201, 2, 5, 5, 40, 0, 40, 1, 60};
        for (int what = 0; what < due.length; what++) {
            checks.same("count " + what, post.count(what), due[what]);
        }
    }

    private void countCracked() {
        checks.sentence(14, "7 ice cells that are cracked");
        SleighPost post = Lakes.cracked();
        checks.same("one", post.count(7), 1);
        post.setIce(1, 5, 1, 1, -1);
        checks.same("none", post.count(7), 0);
    }

    private void countThickness() {
        checks.sentence(14, "8 the thickness of all ice cells, added");
        SleighPost post = new SleighPost();
        post.setIce(0, 0, 16, 10, 200);
        checks.same("all as thick as can be", post.count(8), 32000);
        post.setIce(0, 0, 16, 10, -1);
        checks.same("no ice", post.count(8), 0);
        post.setIce(3, 3, 2, 1, 0);
        checks.same("ice of 0", post.count(8), 0);
        post.setIce(3, 3, 1, 1, 1);
        checks.same("ice of 1 and of 0", post.count(8), 1);
    }

    // ---- step 1

    private void firstHourOfADay() {
        checks.sentence(0, "If the hour is the first one of a day (the remainder by 24 is 0)");
        SleighPost post = Lakes.still();
        post.setCold(0, -1);
        post.setCold(1, -2);
        checks.same("ahead of the hour 0", post.cell(0, 0, 0), 30);
        post.pass(1);
        checks.same("after the hour 0", post.cell(0, 0, 0), 27);
        post.pass(23);
        checks.same("after the hour 23", post.cell(0, 0, 0), 27);
        post.pass(1);
        checks.same("after the hour 24", post.cell(0, 0, 0), 21);
        post.pass(23);
        checks.same("after the hour 47", post.cell(0, 0, 0), 21);
    }

    private void tableByRemainder() {
        checks.sentence(0, "on the day d it is that with the number d by the remainder of 8; the day of an hour is hour / 24.");
        SleighPost post = Lakes.still();
        post.setIce(0, 0, 16, 10, 200);
        int thickness = 200;
        for (int day = 0; day < 8; day++) {
            post.setCold(day, -1 - day);
        }
        for (int day = 0; day < 17; day++) {
            post.pass(24);
            thickness -= 3 * (1 + day % 8);
            checks.same("after the day " + day, post.cell(15, 9, 0), thickness);
            if (thickness < 30) {
                post.setIce(15, 9, 1, 1, 200);
                thickness = 200;
            }
        }
        checks.same("days that wrapped around twice", post.count(0), 17 * 24);
    }

    private void tableAfterManyDays() {
        checks.sentence(0, "on the day d it is that with the number d by the remainder of 8; the day of an hour is hour / 24.");
        SleighPost post = Lakes.still();
        for (int i = 0; i < 450; i++) {
            post.pass(200);
        }
        checks.same("the first hour of the day 3750", post.count(0), 90000);
        post.setCold(6, -1);
        post.setCold(7, -2);
        post.pass(1);
        checks.same("the day 3750 is the day 6 of the table", post.cell(0, 0, 0), 27);
        post.pass(23);
        checks.same("ahead of the day 3751", post.cell(0, 0, 0), 27);
        post.pass(1);
        checks.same("the day 3751 is the day 7 of the table", post.cell(0, 0, 0), 21);
    }

    /** The steps of thickness / 10, and divisions that are cut towards 0. */
    private void growth() {
        checks.sentence(0, "each ice cell becomes thicker by cold * 12 / (6 and thickness / 10)");
        int[] thickness = {0, 9, 10, 19, 20, 59, 60, 99, 100, 130, 150, 199};
        int[] by1 = {2, 2, 1, 1, 1, 1, 1, 0, 0, 0, 0, 0};
        int[] by7 = {14, 14, 12, 12, 10, 7, 7, 5, 5, 4, 4, 1};
        int[] by9 = {18, 18, 15, 15, 13, 9, 9, 7, 6, 5, 5, 1};
        int[][] due = {by1, by7, by9};
        int[] cold = {1, 7, 9};
        for (int i = 0; i < cold.length; i++) {
            SleighPost post = Lakes.still();
            for (int x = 0; x < thickness.length; x++) {
                post.setIce(x, 3, 1, 1, thickness[x]);
            }
            post.setCold(0, cold[i]);
            post.pass(1);
            for (int x = 0; x < thickness.length; x++) {
                checks.same(thickness[x] + " in cold of " + cold[i], post.cell(x, 3, 0), thickness[x] + due[i][x]);
            }
        }
    }

    private void thicknessIsAtMost200() {
        checks.sentence(0, "at most up to 200, if it is cold (greater than 0)");
        SleighPost post = Lakes.still();
        post.setCold(0, 9);
        for (int x = 0; x < 8; x++) {
            post.setIce(x, 0, 1, 1, 193 + x);
        }
        post.pass(1);
        for (int x = 0; x < 8; x++) {
            checks.same((193 + x) + " and 108 / 25", post.cell(x, 0, 0), Math.min(200, 197 + x));
        }
    }

    private void landDoesNotFreeze() {
        checks.sentence(0, "A cell is land (without strain and cracks)");
        for (int cold = -9; cold <= 9; cold += 6) {
            SleighPost post = Lakes.cracked();
            post.setIce(2, 5, 1, 1, -1);
            post.setCold(1, cold);
            post.pass(3);
            int[] due = {-1, 1, 0, 0, -1, 0};
            for (int what = 0; what < due.length; what++) {
                checks.same("land beside a crack in cold of " + cold + ", " + what, post.cell(2, 5, what), due[what]);
            }
        }
    }

    private void strainInCold() {
        checks.sentence(0, "at most up to 200, if it is cold (greater than 0), and its strain is 2 less (at least 0)");
        SleighPost post = Lakes.cracked();
        post.setCold(1, 1);
        post.setCold(2, 1);
        post.setIce(3, 5, 1, 1, 22);
        post.pass(2);
        checks.same("3 ahead of the hour 24", post.cell(1, 5, 2), 3);
        post.pass(1);
        checks.same("3, 2 less", post.cell(1, 5, 2), 1);
        checks.same("2, 2 less", post.cell(2, 5, 2), 0);
        checks.same("0, 2 less, at least 0", post.cell(3, 5, 2), 0);
        checks.same("a crack stays", post.cell(1, 5, 3), 1);
        post.pass(24);
        checks.same("1, 2 less, at least 0", post.cell(1, 5, 2), 0);
        checks.same("a crack stays without strain", post.cell(1, 5, 3), 1);
    }

    private void strainInNoCold() {
        checks.sentence(0, "if it is cold (greater than 0), and its strain is 2 less (at least 0)");
        for (int cold = -1; cold <= 0; cold++) {
            SleighPost post = Lakes.cracked();
            post.setCold(1, cold);
            post.pass(3);
            checks.same("3, not in cold of " + cold, post.cell(1, 5, 2), 3);
            checks.same("2, not in cold of " + cold, post.cell(2, 5, 2), 2);
            checks.same("its thickness", post.cell(2, 5, 0), 22 + 3 * cold);
        }
    }

    private void thawThins() {
        checks.sentence(0, "in thaw it becomes thinner by 3 times the thaw (at least 0)");
        for (int thaw = 1; thaw <= 9; thaw += 4) {
            SleighPost post = Lakes.still();
            for (int x = 0; x < 3; x++) {
                post.setIce(x, 0, 1, 1, 3 * thaw - 1 + x);
            }
            post.setIce(3, 0, 1, 1, 0);
            post.setIce(4, 0, 1, 1, 200);
            post.setIce(5, 0, 1, 1, -1);
            post.setCold(0, -thaw);
            post.pass(1);
            int[] due = {0, 0, 1, 0, 200 - 3 * thaw, -1};
            for (int x = 0; x < due.length; x++) {
                checks.same("thaw of " + thaw + ", cell " + x, post.cell(x, 0, 0), due[x]);
            }
        }
    }

    private void cracksSpreadInThawOnly() {
        checks.sentence(0, "in thaw it becomes thinner by 3 times the thaw (at least 0), and "
                + "(all by what was cracked ahead of this) each ice cell that has a strain of 1 or more");
        for (int cold = -1; cold <= 1; cold++) {
            SleighPost post = Lakes.cracked();
            post.setCold(1, cold);
            post.pass(2);
            checks.same("ahead of the hour 24", post.count(7), 1);
            post.pass(1);
            checks.same("in cold of " + cold, post.cell(2, 5, 3), cold < 0 ? 1 : 0);
            post.pass(20);
            checks.same("no more of them on this day", post.count(7), cold < 0 ? 2 : 1);
        }
    }

    private void cracksSpreadFromOneOfStrain() {
        checks.sentence(0, "each ice cell that has a strain of 1 or more, and lies side by side with a cracked one, is cracked, too.");
        SleighPost post = Lakes.cracked();
        post.setIce(2, 5, 1, 1, 22);
        post.setCold(1, -1);
        post.pass(3);
        checks.same("strain of 0", post.cell(2, 5, 3), 0);
        SleighPost one = Lakes.corridor(4, 22);
        one.addSleigh(0, 1);
        one.send(0, 1);
        one.pass(9);
        one.addSleigh(0, 1);
        one.addSleigh(0, 1);
        one.send(1, 1);
        one.send(2, 1);
        one.pass(3);
        one.setCold(1, -1);
        one.pass(13);
        checks.same("two have cracked the ice that they left", one.cell(1, 5, 3), 1);
        checks.same("and are sunk", one.count(3), 2);
        checks.same("strain of 1", one.cell(2, 5, 2), 1);
        checks.same("a cell with a strain of 1 beside it", one.cell(2, 5, 3), 1);
    }

    private void cracksSpreadByWhatWasCracked() {
        checks.sentence(0, "(all by what was cracked ahead of this)");
        SleighPost right = Lakes.cracked();
        for (int day = 1; day < 8; day++) {
            right.setCold(day, -1);
        }
        right.pass(3);
        checks.same("the first one on its right", right.cell(2, 5, 3), 1);
        checks.same("not yet the second one", right.cell(3, 5, 3), 0);
        right.pass(24);
        checks.same("the second one, a day later", right.cell(3, 5, 3), 1);
        SleighPost left = crackedAtItsRightEnd();
        left.setCold(1, -1);
        left.setCold(2, -1);
        left.pass(24 - left.count(0) + 1);
        checks.same("the first one on its left", left.cell(2, 5, 3), 1);
        checks.same("not yet the second one", left.cell(1, 5, 3), 0);
        left.pass(24);
        checks.same("the second one, a day later", left.cell(1, 5, 3), 1);
    }

    /** The corridor of Lakes.cracked(), crossed from its right end. */
    private static SleighPost crackedAtItsRightEnd() {
        SleighPost post = Lakes.corridor(4, 22);
        post.addSleigh(1, 1);
        for (int trip = 0; trip < 3; trip++) {
            post.send(0, trip == 1 ? 1 : 0);
            post.pass(trip == 2 ? 4 : 9);
        }
        return post;
    }

    /** A strained column crosses a row at its end: the cells (15, 5) and (0, 6) follow each other by number only. */
    private void cracksSpreadSideBySide() {
        checks.sentence(0, "Side by side are cells in one row and neighbouring columns, or in one column and neighbouring rows.");
        SleighPost post = Lakes.still();
        post.setIce(0, 0, 16, 10, 0);
        post.addPost(15, 4);
        post.addPost(15, 6);
        post.addPost(0, 5);
        post.addPost(0, 7);
        post.setIce(15, 5, 1, 1, 22);
        post.setIce(0, 6, 1, 1, 22);
        post.addSleigh(0, 1);
        post.addSleigh(2, 1);
        for (int trip = 0; trip < 3; trip++) {
            post.send(0, trip == 1 ? 0 : 1);
            if (trip < 2) {
                post.send(1, trip == 1 ? 2 : 3);
            }
            post.pass(5);
        }
        checks.same("cracked", post.cell(15, 5, 3), 1);
        checks.same("strain of 2", post.cell(0, 6, 2), 2);
        post.setCold(1, -1);
        post.pass(10);
        checks.same("the hour 24 has gone by", post.cell(0, 6, 0), 19);
        checks.same("it is not side by side", post.cell(0, 6, 3), 0);
        checks.same("one is cracked", post.count(7), 1);
    }

    private void cracksSpreadToAllSides() {
        checks.sentence(0, "and lies side by side with a cracked one, is cracked, too.");
        int[][] ways = {{1, 0}, {-1, 0}, {0, 1}, {0, -1}};
        for (int[] way : ways) {
            SleighPost post = Lakes.still();
            post.setIce(0, 0, 16, 10, 0);
            for (int i = 1; i < 3; i++) {
                post.setIce(5 + i * way[0], 5 + i * way[1], 1, 1, 22);
            }
            post.addPost(5, 5);
            post.addPost(5 + 3 * way[0], 5 + 3 * way[1]);
            post.addSleigh(0, 1);
            for (int trip = 0; trip < 3; trip++) {
                post.send(0, trip == 1 ? 0 : 1);
                post.pass(7);
            }
            checks.same("cracked beside the post", post.cell(5 + way[0], 5 + way[1], 3), 1);
            checks.same("not yet farther off", post.cell(5 + 2 * way[0], 5 + 2 * way[1], 3), 0);
            post.setCold(1, -1);
            post.pass(4);
            checks.same("by thaw", post.cell(5 + 2 * way[0], 5 + 2 * way[1], 3), 1);
            checks.same("cracked cells", post.count(7), 2);
        }
    }

    private void cracksSpreadOnIceOf0() {
        checks.sentence(0, "each ice cell that has a strain of 1 or more, and lies side by side with a cracked one, is cracked, too.");
        SleighPost post = Lakes.cracked();
        post.setCold(1, -8);
        post.setCold(2, -1);
        post.pass(3);
        checks.same("all has thawed", post.cell(2, 5, 0), 0);
        checks.same("ice of 0 is ice", post.cell(2, 5, 3), 1);
        post.pass(24);
        checks.same("it stays cracked, and cracks the next one", post.count(7), 3);
    }

    /** Ice of 22 in a corner of the lake and beside it, from the post 0 below (or above) it to the post 1. */
    private static SleighPost aroundCorner(boolean right, boolean below) {
        SleighPost post = Lakes.still();
        post.setIce(0, 0, 16, 10, 0);
        for (int x = 0; x < 3; x++) {
            post.setIce(right ? 15 - x : x, below ? 9 : 0, 1, 1, 22);
        }
        post.addPost(right ? 15 : 0, below ? 8 : 1);
        post.addPost(right ? 12 : 3, below ? 9 : 0);
        post.addSleigh(0, 1);
        return post;
    }

    private void cornersOfTheLake() {
        checks.sentence(0, "There are 16 columns, x, 0 to 15, and 10 rows, y, 0 to 9: the cell x + 16 * y.");
        for (int corner = 0; corner < 4; corner++) {
            SleighPost post = aroundCorner(corner % 2 == 1, corner >= 2);
            int x = corner % 2 == 1 ? 15 : 0;
            int y = corner >= 2 ? 9 : 0;
            int beside = corner % 2 == 1 ? 14 : 1;
            post.setSnow(x, y, 9);
            checks.same("snow in the corner", post.way(0, 1, 1, 1), 12);
            post.setSnow(x, y, 1);
            for (int trip = 0; trip < 2; trip++) {
                post.send(0, 1 - trip);
                post.pass(9);
            }
            int[] crossed = {22, 1, 2, 0, -1, 0};
            for (int what = 0; what < crossed.length; what++) {
                checks.same("the corner, " + what, post.cell(x, y, what), crossed[what]);
            }
            post.send(0, 1);
            checks.same("foresee it there", post.foresee(0, 3), x + 16 * y);
            checks.same("foresee it sunk", post.foresee(0, 4), -1);
            post.pass(4);
            checks.same("it is sunk", post.sleigh(0, 3), 2);
            checks.same("there", post.sleigh(0, 4), x + 16 * y);
            checks.same("the corner is cracked", post.cell(x, y, 3), 1);
            checks.same("cracked cells", post.count(7), 1);
            checks.same("what bears on it", post.bears(0, 1), 47);
            post.addSleigh(0, 1);
            checks.same("no way over it", post.send(1, 1), -1);
            checks.same("foresee it stay", post.foresee(1, 2), x + 16 * (corner >= 2 ? 8 : 1));
            post.setCold(1, -1);
            post.pass(3);
            checks.same("cracks spread from the corner", post.cell(beside, y, 3), 1);
        }
    }

    private void cracksSpreadIntoCorners() {
        checks.sentence(0, "and lies side by side with a cracked one, is cracked, too.");
        for (int corner = 0; corner < 4; corner++) {
            SleighPost post = aroundCorner(corner % 2 == 1, corner >= 2);
            int x = corner % 2 == 1 ? 15 : 0;
            int y = corner >= 2 ? 9 : 0;
            post.send(0, 1);
            post.pass(9);
            post.send(0, 0);
            post.pass(9);
            post.addSleigh(1, 1);
            post.send(1, 0);
            post.pass(4);
            checks.same("one is cracked", post.count(7), 1);
            post.setCold(1, -1);
            post.setCold(2, -1);
            post.pass(24);
            checks.same("two are cracked", post.count(7), 2);
            checks.same("not yet the corner", post.cell(x, y, 3), 0);
            post.pass(24);
            checks.same("the corner, too", post.cell(x, y, 3), 1);
        }
    }

    private void cracksDoNotSpreadOverLand() {
        checks.sentence(0, "each ice cell that has a strain of 1 or more, and lies side by side with a cracked one, is cracked, too.");
        SleighPost post = Lakes.cracked();
        post.setIce(2, 5, 1, 1, -1);
        for (int day = 1; day < 8; day++) {
            post.setCold(day, -1);
        }
        post.pass(100);
        checks.same("a strained cell behind land", post.cell(3, 5, 3), 0);
        checks.same("its strain", post.cell(3, 5, 2), 2);
        checks.same("cracked cells", post.count(7), 1);
    }

    // ---- step 2

    /** A sleigh that needs 13 has set out to (1, 5) when its ice becomes so thick. */
    private static SleighPost setOutTo(int thickness) {
        SleighPost post = Lakes.corridor(4, 30);
        post.addSleigh(0, 1);
        post.addBag(0, 1, 1);
        post.load(0, 0);
        post.send(0, 1);
        post.pass(1);
        post.setIce(1, 5, 1, 1, thickness);
        return post;
    }

    private void sinkingByThickness() {
        checks.sentence(0, "A sleigh needs ice of the thickness 8 and weight / 12; on a cracked cell twice as much.");
        SleighPost borne = setOutTo(13);
        borne.pass(3);
        checks.same("13 bears 71", borne.sleigh(0, 3), 1);
        SleighPost sunk = setOutTo(12);
        sunk.pass(2);
        checks.same("it comes on ice of 12", sunk.sleigh(0, 4), 81);
        checks.same("it is not sunk in this hour", sunk.sleigh(0, 3), 1);
        sunk.pass(1);
        checks.same("12 does not bear 71", sunk.sleigh(0, 3), 2);
        checks.sentence(0, "each sleigh on a cell that does not bear it is sunk, with all its mail, which is lost.");
        checks.same("its mail is lost", sunk.bag(0, 2), 3);
        checks.same("lost bags", sunk.count(6), 1);
    }

    /** Sleighs of one reindeer need 13, and 26 on a crack, which the frost of the hour 24 brings. */
    private void sinkingByCracks() {
        checks.sentence(0, "on a cracked cell twice as much. Land bears it always.");
        for (int cold = 2; cold <= 3; cold++) {
            SleighPost post = Lakes.corridor(4, 22);
            post.setCold(1, cold);
            post.pass(21);
            for (int i = 0; i < 3; i++) {
                post.addSleigh(0, 1);
                post.send(i, 1);
            }
            post.pass(3);
            checks.same("cracked in the hour 23", post.cell(1, 5, 3), 1);
            checks.same("three are on it", post.cell(1, 5, 5), 3);
            post.pass(1);
            checks.same("its thickness", post.cell(1, 5, 0), cold == 2 ? 25 : 26);
            checks.same("sunk", post.count(3), cold == 2 ? 3 : 0);
        }
    }

    private void sinkingAheadOfGoing() {
        checks.sentence(0, "While it is between two cells, it counts as on the one that it left (for sinking, too).");
        SleighPost post = setOutTo(12);
        post.pass(2);
        checks.same("it set out from thin ice", post.sleigh(0, 6), 2);
        post.pass(1);
        checks.same("it is sunk where it was", post.sleigh(0, 4), 81);
        SleighPost last = Lakes.corridor(2, 30);
        last.addSleigh(0, 6);
        last.addBag(0, 1, 1);
        last.load(0, 0);
        last.send(0, 1);
        last.pass(1);
        last.setIce(1, 5, 1, 1, 25);
        checks.same("none comes", last.pass(200), 0);
        checks.same("it is sunk in the hour in which it would come", last.bag(0, 2), 3);
    }

    private void sinkingAfterThaw() {
        checks.sentence(0, "2. Sinking: each sleigh on a cell that does not bear it is sunk");
        for (int thickness = 15; thickness <= 16; thickness++) {
            SleighPost post = Lakes.corridor(4, thickness);
            post.addSleigh(0, 1);
            post.setSnow(2, 5, 9);
            post.setCold(1, -1);
            post.pass(20);
            post.send(0, 1);
            post.pass(4);
            checks.same("it is on " + thickness, post.sleigh(0, 4), 81);
            post.pass(1);
            checks.same("in the hour 24, after a thaw of 3", post.sleigh(0, 3), thickness == 15 ? 2 : 1);
        }
    }

    private void sinkingAfterFrost() {
        checks.sentence(0, "2. Sinking: each sleigh on a cell that does not bear it is sunk");
        for (int cold = 0; cold <= 1; cold++) {
            SleighPost post = Lakes.corridor(4, 30);
            post.setCold(1, cold);
            post.addSleigh(0, 1);
            post.pass(21);
            post.send(0, 1);
            post.pass(2);
            post.setIce(1, 5, 1, 1, 12);
            post.pass(1);
            checks.same("it is on 12", post.sleigh(0, 4), 81);
            post.pass(1);
            checks.same("in the hour 24, after cold of " + cold, post.sleigh(0, 3), cold == 0 ? 2 : 1);
        }
    }

    private void noSinkingOnLand() {
        checks.sentence(0, "Land bears it always.");
        SleighPost post = Lakes.corridor(4, -1);
        post.addSleigh(0, 6);
        for (int i = 0; i < 40; i++) {
            post.addBag(0, 1, 30);
            post.load(0, i);
        }
        for (int day = 0; day < 8; day++) {
            post.setCold(day, -9);
        }
        checks.same("a weight of 1420", post.sleigh(0, 1), 1420);
        post.pass(30);
        checks.same("it rests", post.send(0, 1), 4 * 4);
        checks.same("all come", post.pass(200), 40);
    }

    // ---- step 3

    private void goingByNumbers() {
        checks.sentence(0, "3. Going, by numbers: a sleigh under way that is between two cells has an hour less to go");
        SleighPost post = Lakes.corridor(3, -1);
        for (int i = 0; i < 5; i++) {
            post.addSleigh(i % 2, 6);
            post.addBag(i % 2, 1 - i % 2, 1);
            post.load(i, i);
        }
        for (int i = 4; i >= 0; i--) {
            post.send(i, 1 - i % 2);
        }
        checks.same("none in 3 hours", post.pass(3), 0);
        checks.same("five in one hour", post.pass(1), 5);
        for (int i = 0; i < 5; i++) {
            checks.same("where it rests", post.sleigh(i, 5), 1 - i % 2);
            checks.same("when its bag came", post.bag(i, 4), 3);
        }
    }

    private void hoursToGo() {
        checks.sentence(0, "with none left it is on the next cell, and is 1 more tired (at most 100).");
        SleighPost post = Lakes.corridor(3, -1);
        post.setSnow(1, 5, 9);
        post.addSleigh(0, 6);
        post.send(0, 1);
        post.pass(1);
        for (int left = 9; left >= 1; left--) {
            checks.same("hours to go", post.sleigh(0, 6), left);
            checks.same("where it was", post.sleigh(0, 4), 80);
            checks.same("tired", post.sleigh(0, 2), 0);
            post.pass(1);
        }
        checks.same("on the next cell", post.sleigh(0, 4), 81);
        checks.same("tired", post.sleigh(0, 2), 1);
    }

    private void tiredByCells() {
        checks.sentence(0, "and is 1 more tired (at most 100).");
        SleighPost post = Lakes.winding();
        post.addSleigh(0, 6);
        post.send(0, 1);
        post.pass(1);
        for (int cells = 1; cells <= 30; cells++) {
            post.pass(1);
            checks.same("after " + cells + " cells", post.sleigh(0, 2), cells);
        }
    }

    private void tiredAtMost100() {
        checks.sentence(0, "and is 1 more tired (at most 100).");
        SleighPost post = Lakes.winding();
        post.addSleigh(0, 6);
        post.send(0, 1);
        post.pass(50 + 2 * 33 + 1);
        checks.same("it rests", post.sleigh(0, 3), 0);
        checks.same("tired", post.sleigh(0, 2), 81);
        post.send(0, 0);
        post.pass(1);
        for (int cells = 1; cells <= 30; cells++) {
            post.pass(2);
            checks.same("after " + cells + " cells", post.sleigh(0, 2), Math.min(100, 81 + cells));
        }
        checks.same("it is under way", post.sleigh(0, 3), 1);
    }

    private void tiredAtLeast0() {
        checks.sentence(0, "5. A sleigh that rests is 2 less tired (at least 0). The hour is 1 greater.");
        SleighPost post = Lakes.corridor(4, -1);
        post.addSleigh(0, 6);
        post.addSleigh(0, 6);
        post.pass(1);
        checks.same("0, 2 less, at least 0", post.sleigh(0, 2), 0);
        post.send(0, 1);
        post.addPost(3, 5);
        post.send(1, 2);
        post.pass(4);
        checks.same("3, 2 less", post.sleigh(1, 2), 1);
        post.pass(1);
        checks.same("1, 2 less, at least 0", post.sleigh(1, 2), 0);
        checks.same("4, 2 less", post.sleigh(0, 2), 2);
        post.pass(1);
        checks.same("2, 2 less", post.sleigh(0, 2), 0);
        post.pass(1);
        checks.same("the hour", post.count(0), 8);
    }

    private void restsInTheHourOfItsComing() {
        checks.sentence(0, "On its goal it rests there");
        SleighPost post = Lakes.corridor(1, -1);
        post.addSleigh(0, 6);
        post.send(0, 1);
        post.pass(1);
        checks.same("under way", post.sleigh(0, 3), 1);
        checks.same("in the hour 1", post.arrives(0), 1);
        post.pass(1);
        int[] due = {6, 220, 0, 0, 1 + 16 * 5, 1, 0, 26, 0};
        for (int what = 0; what < due.length; what++) {
            checks.same("at its goal, " + what, post.sleigh(0, what), due[what]);
        }
        SleighPost past = Lakes.corridor(4, -1);
        past.addPost(2, 5);
        past.addSleigh(0, 6);
        past.send(0, 1);
        past.pass(3);
        checks.same("on a post that is not its goal", past.cell(2, 5, 4), 2);
        checks.same("where it is", past.sleigh(0, 4), 2 + 16 * 5);
        checks.same("it does not rest", past.sleigh(0, 3), 1);
    }

    private void mailComesOrWaits() {
        checks.sentence(0, "its mail for this post has come, the rest of it waits there.");
        SleighPost post = Lakes.corridor(2, -1);
        post.addPost(9, 9);
        post.addSleigh(0, 6);
        post.addSleigh(0, 6);
        int[] goals = {1, 2, 1, 2};
        for (int i = 0; i < goals.length; i++) {
            post.addBag(0, goals[i], 10 + i);
        }
        post.addBag(0, 1, 5);
        for (int i = 0; i < 3; i++) {
            post.load(0, i);
        }
        post.load(1, 3);
        post.send(0, 1);
        checks.same("two come", post.pass(3), 2);
        int[] states = {2, 0, 2, 1, 0};
        int[] places = {1, 1, 1, 1, 0};
        for (int i = 0; i < states.length; i++) {
            checks.same("the bag " + i, post.bag(i, 2), states[i]);
            checks.same("the place of the bag " + i, post.bag(i, 3), places[i]);
        }
        checks.same("no bag is left on it", post.sleigh(0, 8), 0);
        checks.same("it weighs no mail", post.sleigh(0, 1), 220);
    }

    // ---- step 4

    private void looksInEachHour() {
        checks.sentence(0, "without one it stays where it is (it looks again in each hour)");
        SleighPost post = Lakes.corridor(4, 30);
        post.setIce(2, 5, 1, 1, 10);
        for (int day = 1; day < 4; day++) {
            post.setCold(day, 1);
        }
        post.addSleigh(0, 1);
        checks.same("no way", post.send(0, 1), -1);
        post.pass(24 + 24 + 24);
        checks.same("ice of 12 after two days", post.cell(2, 5, 0), 12);
        checks.same("it stays", post.sleigh(0, 6), 0);
        post.pass(1);
        checks.same("ice of 13 in the hour 72", post.cell(2, 5, 0), 13);
        checks.same("it sets out in this hour", post.sleigh(0, 6), 2);
    }

    /** A sleigh looks for its way on each cell: what the ice was when it was sent is of no account. */
    private void looksByWhatBearsNow() {
        checks.sentence(0, "looks for its way to its goal, by what bears it now");
        SleighPost post = Lakes.corridor(4, -1);
        post.addSleigh(0, 6);
        checks.same("a way", post.send(0, 1), 4);
        post.pass(2);
        post.setIce(3, 5, 1, 1, 25);
        post.pass(200);
        checks.same("it came to where the way ends", post.sleigh(0, 4), 82);
        checks.same("it is under way", post.sleigh(0, 3), 1);
        post.setIce(2, 4, 3, 1, 26);
        post.pass(1);
        checks.same("a way round it", post.sleigh(0, 6), 1);
        checks.same("it comes in 4 hours", post.arrives(0), post.count(0) + 3);
        checks.sentence(0, "over cells that bear it now (the one where it begins need not)");
        SleighPost bare = Lakes.corridor(3, 30);
        bare.addSleigh(0, 6);
        bare.send(0, 1);
        bare.pass(1);
        bare.setIce(1, 5, 1, 1, 0);
        bare.pass(1);
        checks.same("it sets out from ice of 0", bare.sleigh(0, 6), 1);
    }

    /** Two that need 13 leave ice of 22; on its way back the sleigh 1 cracks it, which another one looks at then. */
    private void setsOutByNumbers() {
        checks.sentence(0, "4. Setting out, by numbers: a sleigh under way that is on a cell (not between two)");
        SleighPost post = Lakes.corridor(3, 22);
        post.setSnow(2, 5, 2);
        post.addSleigh(0, 1);
        post.addSleigh(0, 1);
        post.send(0, 1);
        post.send(1, 1);
        post.pass(7);
        checks.same("strain of the first ice", post.cell(1, 5, 2), 2);
        checks.same("strain of the second ice", post.cell(2, 5, 2), 2);
        post.pass(1);
        post.send(1, 0);
        post.pass(3);
        post.addSleigh(1, 1);
        post.send(2, 0);
        post.pass(1);
        checks.same("the sleigh 1 cracked the ice that it left", post.cell(2, 5, 3), 1);
        checks.same("in the same hour the sleigh 2 has no way", post.sleigh(2, 6), 0);
        SleighPost other = Lakes.corridor(3, 22);
        other.setSnow(2, 5, 2);
        other.addSleigh(0, 1);
        other.addSleigh(0, 1);
        other.send(0, 1);
        other.send(1, 1);
        other.pass(8);
        other.send(1, 0);
        other.pass(3);
        other.send(0, 0);
        other.pass(1);
        checks.same("the sleigh 1 cracked the ice that it left", other.cell(2, 5, 3), 1);
        checks.same("the sleigh 0 had set out ahead of it", other.sleigh(0, 6), 3);
    }

    private void strainByThickness() {
        checks.sentence(0, "if the cell that it leaves is ice, and its thickness is less than what the sleigh needs there and 10");
        for (int thickness = 22; thickness <= 23; thickness++) {
            SleighPost post = Lakes.corridor(2, thickness);
            post.addSleigh(0, 1);
            post.send(0, 1);
            post.pass(2);
            checks.same("not ahead of its leaving", post.cell(1, 5, 2), 0);
            post.pass(1);
            checks.same("ice of " + thickness + ", which needs 13", post.cell(1, 5, 2), thickness == 22 ? 1 : 0);
        }
    }

    private void strainOfIceOf0() {
        checks.sentence(0, "if the cell that it leaves is ice, and its thickness is less than what the sleigh needs there and 10");
        SleighPost post = setOutTo(0);
        post.pass(2);
        checks.same("it sets out", post.sleigh(0, 6), 2);
        checks.same("ice of 0 is strained", post.cell(1, 5, 2), 1);
    }

    /** On the crack a sleigh of one reindeer needs 26, and 36 so as not to strain it. */
    private void strainOnACrackedCell() {
        checks.sentence(0, "what the sleigh needs there and 10");
        for (int cold = 8; cold <= 9; cold++) {
            SleighPost post = Lakes.cracked();
            post.setIce(2, 5, 2, 1, -1);
            post.setCold(1, cold);
            post.setCold(2, 1);
            post.pass(27);
            checks.same("the crack's ice", post.cell(1, 5, 0), cold == 8 ? 35 : 36);
            checks.same("its strain", post.cell(1, 5, 2), 0);
            checks.same("it is cracked", post.cell(1, 5, 3), 1);
            post.addSleigh(0, 1);
            checks.same("a way over it", post.send(1, 1), 8);
            post.pass(9);
            checks.same("the strain after it", post.cell(1, 5, 2), cold == 8 ? 1 : 0);
        }
    }

    private void strainOnLand() {
        checks.sentence(0, "if the cell that it leaves is ice");
        SleighPost post = Lakes.corridor(3, -1);
        post.addSleigh(0, 6);
        for (int trip = 0; trip < 4; trip++) {
            post.send(0, 1 - trip % 2);
            post.pass(4);
        }
        for (int x = 0; x < 4; x++) {
            checks.same("strain of land", post.cell(x, 5, 2), 0);
            checks.same("land is not cracked", post.cell(x, 5, 3), 0);
        }
    }

    private void crackedFrom3() {
        checks.sentence(0, "and with a strain of 3 or more it is cracked.");
        SleighPost post = Lakes.corridor(2, 22);
        post.addSleigh(0, 1);
        for (int trip = 1; trip <= 3; trip++) {
            post.send(0, trip % 2);
            post.pass(3);
            checks.same("strain", post.cell(1, 5, 2), trip);
            checks.same("cracked by a strain of " + trip, post.cell(1, 5, 3), trip == 3 ? 1 : 0);
            post.pass(trip < 3 ? 2 : 1);
        }
    }

    /** Three sleighs of 6 reindeer crack ice of 35; then one of a reindeer, which needs 26 on it, goes over it. */
    private void strainIsAtMost9() {
        checks.sentence(0, "the strain of this cell is 1 more (at most 9)");
        SleighPost post = Lakes.corridor(2, 35);
        for (int i = 0; i < 3; i++) {
            post.addSleigh(0, 6);
            post.send(i, 1);
        }
        post.pass(2);
        checks.same("strain by three", post.cell(1, 5, 2), 3);
        post.addSleigh(0, 1);
        for (int trip = 4; trip <= 12; trip++) {
            post.send(3, trip % 2 == 0 ? 1 : 0);
            post.pass(5);
            checks.same("it comes", post.sleigh(3, 3), 0);
            checks.same("strain", post.cell(1, 5, 2), Math.min(9, trip));
        }
        checks.same("it is told in the cell's strain alone", post.cell(1, 5, 0), 35);
    }

    // ---- pace

    private void paceOfSnow() {
        checks.sentence(0, "A cell takes as many hours as its snow, and weight / (60 * its reindeer), "
                + "and 1 more if the sleigh is tired 50 or more.");
        SleighPost post = Lakes.corridor(1, -1);
        for (int snow = 1; snow <= 9; snow++) {
            post.setSnow(1, 5, snow);
            checks.same("snow of " + snow, post.way(0, 1, 59, 1), snow);
        }
        checks.same("snow where it begins", post.way(1, 0, 59, 1), 1);
    }

    private void paceOfWeight() {
        checks.sentence(0, "and weight / (60 * its reindeer)");
        SleighPost post = Lakes.corridor(1, -1);
        for (int reindeer = 1; reindeer <= 6; reindeer++) {
            int step = 60 * reindeer;
            checks.same("one less than a step", post.way(0, 1, step - 1, reindeer), 1);
            checks.same("a step", post.way(0, 1, step, reindeer), 2);
            checks.same("one less than two steps", post.way(0, 1, 2 * step - 1, reindeer), 2);
            checks.same("two steps", post.way(0, 1, 2 * step, reindeer), 3);
        }
    }

    private void paceOfATiredOne() {
        checks.sentence(0, "and 1 more if the sleigh is tired 50 or more.");
        SleighPost post = Lakes.winding();
        post.addSleigh(0, 6);
        post.send(0, 1);
        post.pass(50);
        checks.same("tired", post.sleigh(0, 2), 49);
        checks.same("hours of the next cell", post.sleigh(0, 6), 1);
        post.pass(1);
        checks.same("tired", post.sleigh(0, 2), 50);
        checks.same("hours of the next cell", post.sleigh(0, 6), 2);
        checks.same("33 cells of 2 hours", post.arrives(0), 50 + 2 * 33);
    }

    // ---- refused calls

    /** The digest does not tell of the cell to which a sleigh goes: so what comes later is compared, too. */
    private void refusedCallsChangeNothing() {
        checks.sentence(0, "A method that throws an exception changes nothing.");
        SleighPost asked = busyLake();
        SleighPost quiet = busyLake();
        for (int round = 0; round < 12; round++) {
            refuseAll(asked);
            checks.same("bags that come", asked.pass(5), quiet.pass(5));
            checks.sameLong("digest in the hour " + quiet.count(0), asked.digest(), quiet.digest());
        }
    }

    private static SleighPost busyLake() {
        SleighPost post = Lakes.corridor(9, 30);
        post.addSleigh(0, 1);
        post.addSleigh(1, 2);
        post.addBag(0, 1, 3);
        post.addBag(1, 0, 4);
        post.load(0, 0);
        post.load(1, 1);
        post.setCold(1, -1);
        post.send(0, 1);
        post.send(1, 0);
        return post;
    }

    private void refuseAll(SleighPost post) {
        Checks.Call[] calls = {
            () -> post.setIce(0, 5, 10, 1, 5), () -> post.setIce(0, 0, 17, 1, -1), () -> post.setSnow(1, 5, 10),
            () -> post.setCold(1, 10), () -> post.addPost(0, 5), () -> post.addSleigh(2, 1), () -> post.addSleigh(1, 7),
            () -> post.addBag(0, 1, 31), () -> post.load(0, 2), () -> post.send(0, 2), () -> post.pass(201),
            () -> post.way(0, 1, 2001, 1), () -> post.bears(0, 2), () -> post.foresee(0, 201), () -> post.arrives(2),
        };
        for (Checks.Call call : calls) {
            try {
                checks.report("a call that is wrong answered " + call.answer());
            } catch (IndexOutOfBoundsException | IllegalArgumentException | IllegalStateException due) {
                // What it throws is looked at in the tests of its own promise.
            }
        }
    }
}
