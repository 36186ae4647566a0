/** Promises 15 to 18: each sentence that names a bound has a test of its own. */
final class AheadBounds {
    private static final int LEAST = Integer.MIN_VALUE;
    private static final int MOST = Integer.MAX_VALUE;

    private final Checks checks;

    AheadBounds(Checks checks) {
        this.checks = checks;
    }

    void run() {
        wayPosts();
        wayWeight();
        wayReindeer();
        wayToTheSamePost();
        wayWithoutOne();
        wayOfFewestHours();
        wayIsForNoTiredOne();
        wayDoesNotWrapAround();
        waySideBySide();
        wayOverAllCells();
        wayNamesTheFirst();
        firstCellOfSeveral();
        bearsPosts();
        bearsTheSamePost();
        bearsAtMost2000();
        bearsWeight1();
        bearsByThickness();
        bearsOnCracks();
        bearsTheBestWay();
        foreseeSleighs();
        foreseeHours();
        foreseeCell();
        foreseeSinking();
        foreseeOthers();
        foreseeNamesTheFirst();
        arrivesSleighs();
        arrivesWhatIsNotUnderWay();
        arrivesInThisHour();
        arrivesInTheLastHour();
        arrivesInTheLastHourFromNowOn();
        arrivesNever();
        arrivesByWhatOthersDo();
        arrivesAfterMoreThan300();
        lookingAheadChangesNothing();
    }

    // ---- promise 15

    private void wayPosts() {
        SleighPost none = new SleighPost();
        checks.sentence(15, "a post");
        checks.index("from the post 0 ahead of the first one", none, () -> none.way(0, 0, 1, 1));
        SleighPost post = Lakes.corridor(4, 30);
        post.addPost(0, 6);
        checks.same("from the first one to the last one", post.way(0, 2, 1, 1), 1);
        checks.same("from the last one to the first one", post.way(2, 0, 1, 1), 1);
        checks.sentence(15, "if there is no such post");
        for (int far : new int[] {-1, 3, 8, LEAST, MOST}) {
            checks.index("from " + far, post, () -> post.way(far, 0, 1, 1));
            checks.sentence(15, "another one");
            checks.index("to " + far, post, () -> post.way(0, far, 1, 1));
            checks.index("from and to " + far, post, () -> post.way(far, far, 1, 1));
        }
    }

    private void wayWeight() {
        checks.sentence(15, "a weight");
        SleighPost post = Lakes.corridor(2, -1);
        checks.same("1", post.way(0, 1, 1, 1), 2);
        checks.same("2000", post.way(0, 1, 2000, 1), 2 * (1 + 33));
        checks.sentence(15, "if weight is not 1 to 2000");
        for (int weight : new int[] {0, 2001, -1, LEAST, MOST}) {
            checks.argument("" + weight, post, () -> post.way(0, 1, weight, 1));
            checks.argument(weight + ", to the same post", post, () -> post.way(1, 1, weight, 1));
        }
    }

    private void wayReindeer() {
        checks.sentence(15, "how many reindeer");
        SleighPost post = Lakes.corridor(2, -1);
        checks.same("1", post.way(0, 1, 360, 1), 2 * (1 + 6));
        checks.same("6", post.way(0, 1, 360, 6), 2 * (1 + 1));
        checks.sentence(15, "or reindeer is not 1 to 6");
        for (int reindeer : new int[] {0, 7, -1, LEAST, MOST}) {
            checks.argument("" + reindeer, post, () -> post.way(0, 1, 1, reindeer));
            checks.argument(reindeer + ", to the same post", post, () -> post.way(1, 1, 1, reindeer));
        }
    }

    private void wayToTheSamePost() {
        checks.sentence(15, "-1 if there is none, 0 for the same post.");
        SleighPost post = Lakes.corridor(4, 0);
        checks.same("the first one", post.way(0, 0, 2000, 1), 0);
        checks.same("the last one", post.way(1, 1, 1, 6), 0);
    }

    private void wayWithoutOne() {
        checks.sentence(15, "-1 if there is none, 0 for the same post.");
        SleighPost post = Lakes.corridor(4, 13);
        checks.same("13 bears 71", post.way(0, 1, 71, 6), 4);
        checks.same("13 does not bear 72", post.way(0, 1, 72, 6), -1);
        post.setIce(2, 5, 1, 1, 7);
        checks.same("7 does not bear 1", post.way(0, 1, 1, 6), -1);
        post.setIce(2, 5, 1, 1, 8);
        checks.same("8 bears 1", post.way(0, 1, 1, 6), 4);
        checks.same("8 bears 11", post.way(0, 1, 11, 6), 4);
        checks.same("8 does not bear 12", post.way(0, 1, 12, 6), -1);
    }

    private void wayOfFewestHours() {
        checks.sentence(15, "Returns the hours of the way of a sleigh with this weight and so many reindeer");
        SleighPost post = Lakes.corridor(4, -1);
        post.setIce(1, 4, 3, 1, -1);
        post.setIce(0, 4, 1, 1, -1);
        post.setIce(4, 4, 1, 1, -1);
        post.setSnow(2, 5, 3);
        checks.same("6 through the snow, and 6 round it", post.way(0, 1, 1, 1), 6);
        post.setSnow(2, 5, 4);
        checks.same("6 round it", post.way(0, 1, 1, 1), 6);
        post.setSnow(2, 5, 2);
        checks.same("5 through the snow", post.way(0, 1, 1, 1), 5);
        post.setSnow(2, 5, 9);
        checks.same("an hour more for each cell: 12 round it, 16 through it", post.way(0, 1, 60, 1), 12);
        post.setSnow(2, 4, 9);
        checks.same("through the snow, which is everywhere", post.way(0, 1, 60, 1), 16);
    }

    private void wayIsForNoTiredOne() {
        checks.sentence(15, "which is not tired, by all as it is now");
        SleighPost post = Lakes.winding();
        post.addSleigh(0, 6);
        post.send(0, 1);
        post.pass(120);
        checks.same("the sleigh is tired", post.sleigh(0, 2) >= 50 ? 1 : 0, 1);
        checks.same("for one that is not", post.way(1, 0, 220, 6), 83);
    }

    private void wayDoesNotWrapAround() {
        checks.sentence(0, "Side by side are cells in one row and neighbouring columns, or in one column and neighbouring rows.");
        SleighPost post = Lakes.still();
        post.setIce(0, 0, 16, 10, 0);
        post.addPost(15, 4);
        post.addPost(0, 5);
        post.addPost(15, 0);
        post.addPost(15, 9);
        post.addPost(14, 3);
        checks.same("from the end of a row to the begin of the next one", post.way(0, 1, 1, 1), -1);
        checks.same("and back", post.way(1, 0, 1, 1), -1);
        checks.same("what bears there", post.bears(0, 1), -1);
        checks.same("from the first row to the last one", post.way(2, 3, 1, 1), -1);
        checks.same("over a corner", post.way(0, 4, 1, 1), -1);
        post.setIce(15, 3, 1, 1, -1);
        checks.same("round the corner", post.way(0, 4, 1, 1), 2);
    }

    /** From each cell to those whose numbers are near: on ice that bears nobody they have to be side by side. */
    private void waySideBySide() {
        checks.sentence(0, "Side by side are cells in one row and neighbouring columns, or in one column and neighbouring rows.");
        int[] near = {-17, -16, -15, -2, -1, 1, 2, 15, 16, 17};
        for (int from = 0; from < 160; from++) {
            for (int step : near) {
                int to = from + step;
                if (to >= 0 && to < 160) {
                    int apart = Math.abs(from % 16 - to % 16) + Math.abs(from / 16 - to / 16);
                    SleighPost post = new SleighPost();
                    post.setIce(0, 0, 16, 10, 0);
                    post.addPost(from % 16, from / 16);
                    post.addPost(to % 16, to / 16);
                    checks.same("from " + from + " to " + to, post.way(0, 1, 1, 1), apart == 1 ? 1 : -1);
                }
            }
        }
    }

    private void wayOverAllCells() {
        checks.sentence(0, "it takes the hours of all cells that are come to, added");
        SleighPost post = Lakes.winding();
        checks.same("83 cells", post.way(0, 1, 1, 1), 83);
        checks.same("83 cells of the greatest weight", post.way(0, 1, 2000, 1), 83 * 34);
        for (int row = 0; row < 9; row += 2) {
            for (int x = 0; x < 16; x++) {
                post.setSnow(x, row, 9);
            }
        }
        for (int row = 1; row < 8; row += 2) {
            post.setSnow(row % 4 == 1 ? 15 : 0, row, 9);
        }
        checks.same("83 cells of the greatest weight and snow", post.way(0, 1, 2000, 1), 83 * 42);
    }

    private void wayNamesTheFirst() {
        checks.sentence(0, "If several exceptions apply, the one that is named first is thrown.");
        SleighPost post = Lakes.corridor(4, 30);
        checks.index("way from no post without weight", post, () -> post.way(2, 0, 0, 1));
        checks.index("way to no post with 7 reindeer", post, () -> post.way(0, -1, 1, 7));
    }

    /** On all four sides of (5, 5) a way of 10 hours begins; they are closed from the smallest number on. */
    private void firstCellOfSeveral() {
        checks.sentence(0, "its first cell is, of all cells side by side with which such a way begins, "
                + "the one with the smallest number.");
        int[] sides = {5 + 16 * 4, 4 + 16 * 5, 6 + 16 * 5, 5 + 16 * 6};
        for (int closed = 0; closed < 4; closed++) {
            SleighPost post = wheel();
            for (int side = 0; side < closed; side++) {
                post.setIce(sides[side] % 16, sides[side] / 16, 1, 1, 0);
            }
            post.addSleigh(0, 6);
            checks.same("hours", post.send(0, 1), 10);
            post.pass(1);
            post.pass(post.sleigh(0, 6));
            checks.same("the first cell of the sides from " + closed + " on", post.sleigh(0, 4), sides[closed]);
        }
        for (int goal = 1; goal <= 4; goal++) {
            SleighPost post = new SleighPost();
            post.addPost(5, 5);
            post.addPost(goal % 2 == 1 ? 3 : 7, goal <= 2 ? 3 : 7);
            post.addSleigh(0, 6);
            post.send(0, 1);
            post.pass(2);
            checks.same("the first cell of two", post.sleigh(0, 4), goal <= 2 ? sides[0] : goal == 3 ? sides[1] : sides[2]);
        }
    }

    /** A ring of land with four spokes to the post 0; the post 1 lies above, and the snow makes all ways equal. */
    private static SleighPost wheel() {
        SleighPost post = Lakes.still();
        post.setIce(0, 0, 16, 10, 0);
        post.setIce(3, 3, 5, 5, -1);
        for (int corner = 0; corner < 4; corner++) {
            post.setIce(corner % 2 == 0 ? 4 : 6, corner < 2 ? 4 : 6, 1, 1, 0);
        }
        post.setSnow(5, 4, 9);
        post.setSnow(4, 5, 5);
        post.setSnow(6, 5, 5);
        post.addPost(5, 5);
        post.addPost(5, 3);
        return post;
    }

    // ---- promise 16

    private void bearsPosts() {
        checks.sentence(16, "a post");
        SleighPost none = new SleighPost();
        checks.index("from the post 0 ahead of the first one", none, () -> none.bears(0, 0));
        SleighPost post = Lakes.corridor(4, 8);
        checks.same("from the first one to the last one", post.bears(0, 1), 11);
        checks.same("from the last one to the first one", post.bears(1, 0), 11);
        checks.sentence(16, "if there is no such post");
        for (int far : new int[] {-1, 2, 8, LEAST, MOST}) {
            checks.index("from " + far, post, () -> post.bears(far, 0));
            checks.sentence(16, "another one");
            checks.index("to " + far, post, () -> post.bears(0, far));
            checks.index("from and to " + far, post, () -> post.bears(far, far));
        }
    }

    private void bearsTheSamePost() {
        checks.sentence(16, "(2000 for the same post)");
        SleighPost post = Lakes.corridor(4, 0);
        checks.same("the first one", post.bears(0, 0), 2000);
        checks.same("the last one", post.bears(1, 1), 2000);
    }

    private void bearsAtMost2000() {
        checks.sentence(16, "Returns the greatest weight, at most 2000, with which there is a way from the one to the other one now");
        SleighPost post = Lakes.corridor(4, 173);
        checks.same("173, up to 165 * 12 and 11", post.bears(0, 1), 1991);
        post.setIce(1, 5, 3, 1, 174);
        checks.same("174, which would bear 2003", post.bears(0, 1), 2000);
        post.setIce(1, 5, 3, 1, 200);
        checks.same("200", post.bears(0, 1), 2000);
        post.setIce(1, 5, 3, 1, -1);
        checks.same("land", post.bears(0, 1), 2000);
        checks.same("a way with it", post.way(0, 1, 2000, 6), 4 * 6);
    }

    private void bearsWeight1() {
        checks.sentence(16, "-1 if there is none with the weight 1");
        SleighPost post = Lakes.corridor(4, 7);
        checks.same("7", post.bears(0, 1), -1);
        post.setIce(1, 5, 3, 1, 8);
        checks.same("8", post.bears(0, 1), 11);
        post.setIce(3, 5, 1, 1, 0);
        checks.same("0", post.bears(0, 1), -1);
    }

    private void bearsByThickness() {
        checks.sentence(16, "Returns the greatest weight, at most 2000, with which there is a way from the one to the other one now");
        SleighPost post = Lakes.corridor(2, 8);
        for (int thickness = 8; thickness < 200; thickness += 3) {
            post.setIce(1, 5, 1, 1, thickness);
            int weight = post.bears(0, 1);
            checks.same("ice of " + thickness, weight, Math.min(2000, 12 * (thickness - 8) + 11));
            checks.same("a way with it", post.way(0, 1, weight, 6) > 0 ? 1 : 0, 1);
            if (weight < 2000) {
                checks.same("a way with 1 more", post.way(0, 1, weight + 1, 6), -1);
            }
        }
    }

    /** The cracked cell's ice is 22, and by the hour 24 one more or less. */
    private void bearsOnCracks() {
        checks.sentence(0, "on a cracked cell twice as much");
        SleighPost post = Lakes.cracked();
        checks.same("22, half of it is 11", post.bears(0, 1), 12 * 3 + 11);
        checks.same("a weight of 47", post.way(0, 1, 47, 6), 4);
        checks.same("a weight of 48", post.way(0, 1, 48, 6), -1);
        post.setCold(1, -1);
        post.pass(3);
        checks.same("19, half of it is 9", post.bears(0, 1), 12 + 11);
        post.setCold(2, -1);
        post.pass(24);
        checks.same("16, half of it is 8", post.bears(0, 1), 11);
        post.setCold(3, -1);
        post.pass(24);
        checks.same("13", post.bears(0, 1), -1);
        post.setCold(4, 2);
        post.pass(24);
        checks.same("16 again", post.bears(0, 1), 11);
        SleighPost less = Lakes.cracked();
        less.setCold(1, -3);
        less.setCold(2, 1);
        less.setCold(3, 1);
        less.pass(3 + 48);
        checks.same("13, and 1, and 1", less.cell(1, 5, 0), 15);
        checks.same("15, half of it is 7", less.bears(0, 1), -1);
    }

    private void bearsTheBestWay() {
        checks.sentence(16, "Returns the greatest weight, at most 2000, with which there is a way from the one to the other one now");
        SleighPost post = Lakes.corridor(4, 20);
        post.setIce(0, 4, 5, 1, 50);
        checks.same("round the thin ice", post.bears(0, 1), 12 * 42 + 11);
        post.setIce(3, 4, 1, 1, 49);
        checks.same("the thinnest ice of the best way", post.bears(0, 1), 12 * 41 + 11);
        post.setIce(3, 5, 1, 1, 60);
        post.setIce(2, 5, 1, 1, 55);
        checks.same("over both rows", post.bears(0, 1), 12 * 42 + 11);
    }

    // ---- promise 17

    private void foreseeSleighs() {
        checks.sentence(17, "a sleigh");
        SleighPost post = Lakes.corridor(4, -1);
        checks.index("the sleigh 0 ahead of the first one", post, () -> post.foresee(0, 1));
        post.addSleigh(0, 6);
        post.addSleigh(1, 6);
        checks.same("the first one", post.foresee(0, 1), 80);
        checks.same("the last one", post.foresee(1, 1), 84);
        checks.sentence(17, "if there is no such sleigh");
        for (int sleigh : new int[] {-1, 2, 5, LEAST, MOST}) {
            checks.index("" + sleigh, post, () -> post.foresee(sleigh, 1));
        }
    }

    private void foreseeHours() {
        checks.sentence(17, "how many, 1 to 200");
        SleighPost post = HourBounds.slowSleigh(13, 199);
        checks.same("1", post.foresee(0, 1), 80);
        checks.same("199", post.foresee(0, 199), 92);
        checks.same("200", post.foresee(0, 200), 93);
        checks.sentence(17, "if hours is not 1 to 200");
        for (int hours : new int[] {0, 201, -1, LEAST, MOST}) {
            checks.argument("" + hours, post, () -> post.foresee(0, hours));
        }
    }

    private void foreseeCell() {
        checks.sentence(17, "Returns its cell then, if nothing is done");
        SleighPost post = Lakes.corridor(4, -1);
        post.addSleigh(0, 1);
        post.send(0, 1);
        for (int hours = 1; hours <= 12; hours++) {
            checks.same("after " + hours + " hours", post.foresee(0, hours), 80 + Math.min(4, (hours - 1) / 2));
        }
        post.pass(3);
        checks.same("after 3 hours and 1", post.foresee(0, 1), 81);
        checks.same("after 3 hours and 2", post.foresee(0, 2), 82);
        post.pass(20);
        checks.same("one that rests", post.foresee(0, 200), 84);
    }

    private void foreseeSinking() {
        checks.sentence(17, "-1 if it is sunk then (nothing is changed).");
        SleighPost post = Lakes.corridor(4, 30);
        post.addSleigh(0, 1);
        post.send(0, 1);
        post.pass(1);
        post.setIce(1, 5, 1, 1, 12);
        checks.same("it comes on thin ice", post.foresee(0, 2), 81);
        checks.same("it sinks an hour later", post.foresee(0, 3), -1);
        checks.same("for all time", post.foresee(0, 200), -1);
        post.pass(3);
        checks.same("it is sunk", post.sleigh(0, 3), 2);
        checks.same("one that is sunk", post.foresee(0, 1), -1);
    }

    private void foreseeOthers() {
        checks.sentence(17, "Returns its cell then, if nothing is done");
        SleighPost post = Lakes.corridor(4, 22);
        for (int i = 0; i < 3; i++) {
            post.addSleigh(0, 1);
        }
        post.send(0, 1);
        checks.same("alone", post.foresee(0, 50), 84);
        post.send(1, 1);
        checks.same("with another one", post.foresee(0, 50), 84);
        post.send(2, 1);
        checks.same("three crack the ice", post.foresee(0, 50), -1);
        checks.same("which is cracked in the hour 2", post.foresee(0, 3), 81);
        checks.same("and does not bear them in the hour 3", post.foresee(0, 4), -1);
    }

    private void foreseeNamesTheFirst() {
        checks.sentence(0, "If several exceptions apply, the one that is named first is thrown.");
        SleighPost post = Lakes.corridor(4, 22);
        checks.index("foresee of no sleigh for 0 hours", post, () -> post.foresee(0, 0));
        checks.index("foresee of no sleigh for 201 hours", post, () -> post.foresee(-1, 201));
    }

    // ---- promise 18

    private void arrivesSleighs() {
        checks.sentence(18, "a sleigh under way");
        SleighPost post = Lakes.corridor(4, -1);
        checks.index("the sleigh 0 ahead of the first one", post, () -> post.arrives(0));
        post.addSleigh(0, 6);
        post.addSleigh(1, 1);
        post.send(0, 1);
        post.send(1, 0);
        checks.same("the first one", post.arrives(0), 4);
        checks.same("the last one", post.arrives(1), 8);
        checks.sentence(18, "if there is no such sleigh");
        for (int sleigh : new int[] {-1, 2, 5, LEAST, MOST}) {
            checks.index("" + sleigh, post, () -> post.arrives(sleigh));
        }
    }

    private void arrivesWhatIsNotUnderWay() {
        checks.sentence(18, "if it is not under way");
        SleighPost post = Lakes.corridor(4, -1);
        post.addSleigh(0, 6);
        checks.state("one that rests", post, () -> post.arrives(0));
        post.send(0, 1);
        checks.same("one that is sent", post.arrives(0), 4);
        post.pass(4);
        checks.same("between the last two cells", post.arrives(0), 4);
        post.pass(1);
        checks.state("one that has come", post, () -> post.arrives(0));
        SleighPost sunk = Lakes.cracked();
        checks.state("one that is sunk", sunk, () -> sunk.arrives(0));
    }

    private void arrivesInThisHour() {
        checks.sentence(18, "Returns the hour (its number) in which it comes to its goal, if nothing is done");
        SleighPost post = Lakes.corridor(1, -1);
        post.pass(30);
        post.addSleigh(0, 6);
        post.addBag(0, 1, 1);
        post.load(0, 0);
        post.send(0, 1);
        checks.same("it sets out in the hour 30", post.arrives(0), 31);
        post.pass(1);
        checks.same("it comes in the hour that is now", post.arrives(0), 31);
        checks.same("the hour", post.count(0), 31);
        post.pass(1);
        checks.same("its bag came in this hour", post.bag(0, 4), 31);
    }

    private void arrivesInTheLastHour() {
        checks.sentence(18, "in at most 300 hours from now on; -1 if it does not (nothing is changed).");
        SleighPost post = HourBounds.slowSleigh(14, 299);
        checks.same("in the hour 299, the last one of 300", post.arrives(0), 299);
        SleighPost later = HourBounds.slowSleigh(14, 300);
        checks.same("in the hour 300", later.arrives(0), -1);
        later.pass(1);
        checks.same("in the hour 300, from the hour 1 on", later.arrives(0), 300);
    }

    private void arrivesInTheLastHourFromNowOn() {
        checks.sentence(18, "in at most 300 hours from now on");
        SleighPost post = Lakes.corridor(2, -1);
        post.addSleigh(0, 6);
        post.setIce(1, 5, 1, 1, 25);
        post.setCold(6, 1);
        checks.same("no way up to the hour 144", post.send(0, 1), -1);
        checks.same("it comes in the hour 146", post.arrives(0), 146);
        post.setCold(6, 0);
        post.setCold(4, 1);
        post.pass(110);
        checks.same("it came, as the day 4 was cold", post.sleigh(0, 3), 0);
        SleighPost far = Lakes.corridor(2, -1);
        far.addSleigh(0, 6);
        far.setIce(1, 5, 1, 1, 24);
        far.setCold(4, 1);
        checks.same("24, 25 on the day 4, 26 on the day 12", far.send(0, 1), -1);
        checks.same("in the hour 290", far.arrives(0), 290);
        far.setIce(1, 5, 1, 1, 23);
        checks.same("26 on the day 20", far.arrives(0), -1);
        far.pass(182);
        checks.same("not in 300 hours from the hour 182 on", far.arrives(0), -1);
        far.pass(1);
        checks.same("in the hour 482, from the hour 183 on", far.arrives(0), 482);
    }

    private void arrivesNever() {
        checks.sentence(18, "-1 if it does not (nothing is changed).");
        SleighPost post = Lakes.corridor(4, 12);
        post.addSleigh(0, 1);
        post.send(0, 1);
        checks.same("without a way", post.arrives(0), -1);
        SleighPost sinks = Lakes.corridor(4, 30);
        sinks.addSleigh(0, 1);
        sinks.send(0, 1);
        sinks.pass(1);
        sinks.setIce(1, 5, 1, 1, 12);
        checks.same("one that will sink", sinks.arrives(0), -1);
        checks.same("which it has not yet", sinks.sleigh(0, 3), 1);
    }

    private void arrivesByWhatOthersDo() {
        checks.sentence(18, "if nothing is done");
        SleighPost post = Lakes.corridor(4, 22);
        for (int i = 0; i < 3; i++) {
            post.addSleigh(0, 1);
        }
        post.send(2, 1);
        checks.same("alone", post.arrives(2), 8);
        post.send(0, 1);
        post.send(1, 1);
        checks.same("with two that crack the ice", post.arrives(2), -1);
    }

    /** Looks on one object after the other: what a look leaves behind must not be seen by the next one. */
    private void arrivesAfterMoreThan300() {
        checks.sentence(18, "(nothing is changed)");
        SleighPost post = HourBounds.slowSleigh(14, 320);
        long before = post.digest();
        for (int look = 0; look < 3; look++) {
            checks.same("it does not in 300 hours", post.arrives(0), -1);
            checks.same("where it is in 200", post.foresee(0, 200), 88);
        }
        checks.sameLong("digest", post.digest(), before);
        post.pass(21);
        checks.same("in the hour 320", post.arrives(0), 320);
        checks.same("all its bags", post.pass(200) + post.pass(100), 40);
    }

    /** The digest does not tell of all that an object holds: so what comes later is compared, too. */
    private void lookingAheadChangesNothing() {
        checks.sentence(17, "(nothing is changed)");
        SleighPost asked = movingLake();
        SleighPost quiet = movingLake();
        for (int round = 0; round < 12; round++) {
            for (int sleigh = 0; sleigh < 3; sleigh++) {
                asked.foresee(sleigh, 1 + 17 * round);
                if (asked.sleigh(sleigh, 3) == 1) {
                    asked.arrives(sleigh);
                }
            }
            asked.way(0, 1, 100, 1);
            asked.bears(1, 0);
            asked.mean();
            checks.sameLong("digest in the hour " + quiet.count(0), asked.digest(), quiet.digest());
            checks.same("bags that come", asked.pass(3), quiet.pass(3));
        }
        checks.sameLong("the last digest", asked.digest(), quiet.digest());
    }

    private static SleighPost movingLake() {
        SleighPost post = Lakes.corridor(9, 24);
        for (int i = 0; i < 3; i++) {
            post.addSleigh(i % 2, 1 + i);
            post.addBag(i % 2, 1 - i % 2, 3 + i);
            post.load(i, i);
            post.send(i, 1 - i % 2);
        }
        post.setCold(1, -1);
        return post;
    }
}
