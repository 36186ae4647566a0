/** Promises 10, 13 and 15 to 18: ways, hours that go by, strain, cracks, sinking, tiredness, looking ahead. */
public final class HoursTest {
    private static final Class<IllegalArgumentException> ARGUMENT = IllegalArgumentException.class;
    private static final Class<IllegalStateException> STATE = IllegalStateException.class;
    private static final Class<IndexOutOfBoundsException> INDEX = IndexOutOfBoundsException.class;
    private static final int[] FAR = {Integer.MIN_VALUE, -1, Integer.MAX_VALUE};

    private static final Checks CHECKS = new Checks();

    public static void main(String[] args) {
        hoursAreRefused();
        paces();
        waysAreRefused();
        firstCells();
        bearing();
        strainCracksAndSinking();
        cracksSpreadInThaw();
        frostHeals();
        strainByThickness();
        mostStrain();
        tiredSleighs();
        frostAheadOfSinking();
        beginsWhereItIsNotBorne();
        orderOfSettingOut();
        lookingAheadChangesNothing();
        longLook();
        lookingAheadIsRefused();
        CHECKS.end();
    }

    private static void hoursAreRefused() {
        SleighPost post = new SleighPost();
        for (int hours : new int[] {0, 201, -1, Integer.MAX_VALUE, Integer.MIN_VALUE}) {
            CHECKS.refuses("pass " + hours, post, ARGUMENT, () -> post.pass(hours));
        }
        CHECKS.same("pass 1", post.pass(1), 0);
        CHECKS.same("pass 200", post.pass(200), 0);
        CHECKS.same("the hour", post.count(0), 201);
    }

    private static void paces() {
        SleighPost post = Lakes.corridor(4, -1);
        CHECKS.same("way to the same post", post.way(0, 0, 2000, 1), 0);
        CHECKS.same("way of 4 cells", post.way(0, 1, 59, 1), 4);
        CHECKS.same("a weight of 60", post.way(0, 1, 60, 1), 8);
        CHECKS.same("a weight of 119 and 2 reindeer", post.way(0, 1, 119, 2), 4);
        CHECKS.same("a weight of 120 and 2 reindeer", post.way(0, 1, 120, 2), 8);
        CHECKS.same("a weight of 2000", post.way(0, 1, 2000, 1), 4 * 34);
        CHECKS.same("a weight of 2000 and 6 reindeer", post.way(0, 1, 2000, 6), 4 * 6);
        post.setSnow(0, 5, 9);
        CHECKS.same("snow where it begins", post.way(0, 1, 1, 1), 4);
        CHECKS.same("the same snow on the way back", post.way(1, 0, 1, 1), 12);
        post.setSnow(2, 5, 5);
        CHECKS.same("snow on the way", post.way(0, 1, 1, 1), 8);
        post.setIce(2, 4, 1, 1, -1);
        post.setIce(1, 4, 1, 1, -1);
        post.setIce(3, 4, 1, 1, -1);
        CHECKS.same("a way round the snow", post.way(0, 1, 1, 1), 6);
        post.setIce(2, 4, 2, 2, 8);
        CHECKS.same("thin ice bears the weight 11", post.way(0, 1, 11, 1), 6);
        CHECKS.same("it does not bear the weight 12", post.way(0, 1, 12, 1), -1);
    }

    private static void waysAreRefused() {
        SleighPost post = Lakes.corridor(4, -1);
        for (int far : FAR) {
            CHECKS.refuses("way from " + far, post, INDEX, () -> post.way(far, 0, 0, 0));
            CHECKS.refuses("way to " + far, post, INDEX, () -> post.way(0, far, 0, 0));
            CHECKS.refuses("way with the weight " + far, post, ARGUMENT,
                    () -> post.way(0, 1, far == Integer.MAX_VALUE ? 2001 : far, 1));
            CHECKS.refuses("way with reindeer " + far, post, ARGUMENT, () -> post.way(0, 1, 1, far));
            CHECKS.refuses("bears from " + far, post, INDEX, () -> post.bears(far, 0));
            CHECKS.refuses("bears to " + far, post, INDEX, () -> post.bears(0, far));
        }
        CHECKS.refuses("way to no third post", post, INDEX, () -> post.way(0, 2, 0, 0));
        CHECKS.refuses("bears to no third post", post, INDEX, () -> post.bears(2, 2));
        CHECKS.refuses("way without weight", post, ARGUMENT, () -> post.way(0, 1, 0, 1));
        CHECKS.refuses("way with too much weight", post, ARGUMENT, () -> post.way(0, 1, 2001, 1));
        CHECKS.refuses("way without reindeer", post, ARGUMENT, () -> post.way(0, 0, 1, 0));
        CHECKS.refuses("way with 7 reindeer", post, ARGUMENT, () -> post.way(0, 0, 1, 7));
    }

    private static void firstCells() {
        SleighPost post = new SleighPost();
        post.addPost(3, 3);
        post.addPost(1, 1);
        post.addPost(5, 5);
        post.addPost(5, 1);
        post.addPost(1, 5);
        int[] due = {0, 3 + 16 * 2, 4 + 16 * 3, 3 + 16 * 2, 2 + 16 * 3};
        for (int goal = 1; goal <= 4; goal++) {
            post.addSleigh(0, 6);
            CHECKS.same("send", post.send(goal - 1, goal), 4);
        }
        post.pass(2);
        for (int goal = 1; goal <= 4; goal++) {
            CHECKS.same("the first cell to the post " + goal, post.sleigh(goal - 1, 4), due[goal]);
        }
    }

    private static void bearing() {
        SleighPost post = Lakes.corridor(9, 30);
        CHECKS.same("ice of 30", post.bears(0, 1), 12 * 22 + 11);
        CHECKS.same("the same post", post.bears(1, 1), 2000);
        post.setIce(4, 5, 1, 1, 8);
        CHECKS.same("ice of 8", post.bears(0, 1), 11);
        post.setIce(4, 5, 1, 1, 7);
        CHECKS.same("ice of 7", post.bears(1, 0), -1);
        post.setIce(1, 5, 8, 1, 173);
        CHECKS.same("ice of 173", post.bears(0, 1), 12 * 165 + 11);
        post.setIce(1, 5, 8, 1, 174);
        CHECKS.same("ice of 174", post.bears(0, 1), 2000);
        post.setIce(1, 5, 8, 1, 200);
        CHECKS.same("ice of 200", post.bears(0, 1), 2000);
        post.setIce(1, 5, 8, 1, -1);
        CHECKS.same("land", post.bears(0, 1), 2000);
        post.setIce(3, 5, 1, 1, 20);
        post.setIce(2, 4, 3, 1, 25);
        CHECKS.same("the better one of two ways", post.bears(0, 1), 12 * 17 + 11);
    }

    /** A sleigh of one reindeer needs 13, takes 2 hours for a cell, and strains ice of less than 23. */
    private static void strainCracksAndSinking() {
        SleighPost post = Lakes.corridor(15, 22);
        post.addSleigh(0, 1);
        post.addBag(1, 0, 3);
        CHECKS.same("send", post.send(0, 1), 30);
        CHECKS.same("arrives", post.arrives(0), 30);
        post.pass(31);
        CHECKS.same("it rests", post.sleigh(0, 3), 0);
        CHECKS.same("it is tired by 15 cells, and has rested an hour", post.sleigh(0, 2), 13);
        CHECKS.same("strain of the post's cell", post.cell(0, 5, 2), 0);
        CHECKS.same("strain of the first ice", post.cell(1, 5, 2), 1);
        CHECKS.same("strain of the last ice", post.cell(14, 5, 2), 1);
        post.load(0, 0);
        post.send(0, 0);
        CHECKS.same("a bag comes", post.pass(31), 1);
        CHECKS.same("strain of 2", post.cell(1, 5, 2), 2);
        CHECKS.same("it is not cracked", post.cell(1, 5, 3), 0);
        post.addBag(0, 1, 3);
        post.load(0, 1);
        CHECKS.same("send a third time", post.send(0, 1), 30);
        CHECKS.same("it does not arrive", post.arrives(0), -1);
        CHECKS.same("foresee it on the ice", post.foresee(0, 3), 81);
        CHECKS.same("foresee it sunk", post.foresee(0, 4), -1);
        post.pass(3);
        CHECKS.same("strain of 3", post.cell(1, 5, 2), 3);
        CHECKS.same("it is cracked", post.cell(1, 5, 3), 1);
        CHECKS.same("cracked cells", post.count(7), 1);
        CHECKS.same("it is between two cells", post.sleigh(0, 6), 2);
        CHECKS.same("what bears with a crack", post.bears(0, 1), 12 * 3 + 11);
        CHECKS.same("none comes", post.pass(1), 0);
        CHECKS.same("it is sunk", post.sleigh(0, 3), 2);
        CHECKS.same("where it was", post.sleigh(0, 4), 81);
        CHECKS.same("no more hours to go", post.sleigh(0, 6), 0);
        CHECKS.same("its mail is lost", post.bag(1, 2), 3);
        CHECKS.same("it weighs no mail", post.sleigh(0, 1), 70);
        CHECKS.same("foresee a sunk one", post.foresee(0, 1), -1);
        CHECKS.refuses("arrives of a sunk one", post, STATE, () -> post.arrives(0));
    }

    /** Three crossings of the first cells; the last ice has a strain of 2 only. */
    private static SleighPost crackedCorridor() {
        SleighPost post = Lakes.corridor(15, 22);
        post.addSleigh(0, 1);
        for (int trip = 0; trip < 3; trip++) {
            post.send(0, trip % 2 == 0 ? 1 : 0);
            post.pass(31);
        }
        return post;
    }

    private static void cracksSpreadInThaw() {
        SleighPost post = crackedCorridor();
        CHECKS.same("the hour", post.count(0), 93);
        CHECKS.same("one cell is cracked", post.count(7), 1);
        post.setSnow(1, 4, 2);
        post.pass(27);
        CHECKS.same("a day without frost keeps the strain", post.cell(2, 5, 2), 2);
        CHECKS.same("and the cracks", post.count(7), 1);
        for (int day = 0; day < 8; day++) {
            post.setCold(day, -1);
        }
        post.pass(1);
        CHECKS.same("the strained cell beside it is cracked", post.cell(2, 5, 3), 1);
        CHECKS.same("by what was cracked ahead: no other one", post.count(7), 2);
        CHECKS.same("cells without strain are not", post.cell(1, 4, 3), 0);
        CHECKS.same("thaw keeps the strain", post.cell(2, 5, 2), 2);
        CHECKS.same("the ice is thinner", post.cell(2, 5, 0), 19);
        post.pass(24);
        CHECKS.same("the next one, a day later", post.cell(3, 5, 3), 1);
        CHECKS.same("three", post.count(7), 3);
        post.setIce(3, 5, 1, 1, 22);
        CHECKS.same("new ice has no strain", post.cell(3, 5, 2), 0);
        CHECKS.same("new ice is not cracked", post.cell(3, 5, 3), 0);
        post.pass(24);
        CHECKS.same("a gap without strain stops them", post.count(7), 2);
        post.setIce(1, 5, 2, 1, -1);
        CHECKS.same("land has no cracks", post.count(7), 0);
    }

    private static void frostHeals() {
        SleighPost post = crackedCorridor();
        for (int day = 0; day < 8; day++) {
            post.setCold(day, 1);
        }
        post.pass(4);
        CHECKS.same("frost takes 2 of the strain", post.cell(1, 5, 2), 1);
        CHECKS.same("and 2 of 2", post.cell(2, 5, 2), 0);
        CHECKS.same("the crack stays", post.cell(1, 5, 3), 1);
        post.pass(24);
        CHECKS.same("strain is at least 0", post.cell(1, 5, 2), 0);
        post.addPost(1, 5);
        CHECKS.same("a post's cell is not cracked", post.cell(1, 5, 3), 0);
        CHECKS.same("it is land", post.cell(1, 5, 0), -1);
    }

    private static void strainByThickness() {
        SleighPost post = Lakes.corridor(4, 22);
        post.setIce(2, 5, 1, 1, 23);
        post.setIce(3, 5, 1, 1, -1);
        post.addSleigh(0, 1);
        post.send(0, 1);
        post.pass(9);
        CHECKS.same("ice of 22 is strained", post.cell(1, 5, 2), 1);
        CHECKS.same("ice of 23 is not", post.cell(2, 5, 2), 0);
        CHECKS.same("land is not", post.cell(3, 5, 2), 0);
        CHECKS.same("all others are not", post.cell(1, 4, 2), 0);
    }

    /** Ice of 28 is strained and cracked by a sleigh that needs 21; one that needs 13 goes on over the crack. */
    private static void mostStrain() {
        SleighPost post = Lakes.corridor(3, 28);
        post.setIce(2, 5, 1, 1, -1);
        post.addSleigh(0, 4);
        post.addSleigh(0, 1);
        for (int trip = 1; trip <= 2; trip++) {
            post.send(0, trip % 2 == 1 ? 1 : 0);
            post.pass(5);
            CHECKS.same("strain by the heavy one", post.cell(1, 5, 2), trip);
        }
        post.send(1, 1);
        post.pass(7);
        CHECKS.same("the light one does not strain it", post.cell(1, 5, 2), 2);
        post.send(0, 1);
        post.pass(2);
        CHECKS.same("strain of 3", post.cell(1, 5, 2), 3);
        CHECKS.same("cracked", post.cell(1, 5, 3), 1);
        post.pass(1);
        CHECKS.same("the heavy one is sunk", post.sleigh(0, 3), 2);
        for (int strain = 4; strain <= 11; strain++) {
            CHECKS.same("send the light one over the crack", post.send(1, strain % 2 == 0 ? 0 : 1), 6);
            post.pass(7);
            CHECKS.same("it comes", post.sleigh(1, 3), 0);
            CHECKS.same("strain, at most 9", post.cell(1, 5, 2), Math.min(9, strain));
        }
    }

    /** A sleigh of six reindeer takes an hour for a cell, and 2 when it is tired 50. */
    private static void tiredSleighs() {
        SleighPost post = Lakes.corridor(15, -1);
        post.addSleigh(0, 6);
        for (int trip = 0; trip < 3; trip++) {
            CHECKS.same("send", post.send(0, trip % 2 == 0 ? 1 : 0), 15);
            CHECKS.same("arrives", post.arrives(0), 16 * trip + 15);
            post.pass(16);
            CHECKS.same("tired", post.sleigh(0, 2), 13 * trip + 13);
        }
        CHECKS.same("send a fourth time", post.send(0, 0), 15);
        CHECKS.same("it becomes tired on its way: 11 hours and 8", post.arrives(0), 48 + 19);
        post.pass(20);
        CHECKS.same("it is tired 52", post.sleigh(0, 2), 52);
        CHECKS.same("send a tired one", post.send(0, 1), 30);
        CHECKS.same("foresee it at its goal", post.foresee(0, 200), 95);
        CHECKS.same("a look ahead lets it be tired all the same", post.arrives(0), 68 + 30);
        CHECKS.same("way is for one that is not tired", post.way(0, 1, 220, 6), 15);
        post.pass(200);
        CHECKS.same("it has rested", post.sleigh(0, 2), 0);
        tiredAtMostHundred();
    }

    private static void tiredAtMostHundred() {
        SleighPost post = Lakes.corridor(15, -1);
        post.addSleigh(0, 6);
        for (int trip = 0; trip < 9; trip++) {
            post.send(0, trip % 2 == 0 ? 1 : 0);
            post.pass(post.arrives(0) + 1 - post.count(0));
        }
        CHECKS.same("at most 100, less 2 in the hour of its coming", post.sleigh(0, 2), 98);
    }

    /** The sleigh needs 13; it is on ice of 12 when the day begins. */
    private static void frostAheadOfSinking() {
        for (int cold = -1; cold <= 1; cold++) {
            SleighPost post = Lakes.corridor(4, 16);
            post.addSleigh(0, 1);
            post.setSnow(2, 5, 9);
            post.pass(19);
            post.setCold(1, cold == -1 ? -2 : cold);
            post.send(0, 1);
            post.pass(5);
            CHECKS.same("the hour", post.count(0), 24);
            CHECKS.same("the sleigh is on the first ice", post.sleigh(0, 4), 81);
            post.pass(1);
            CHECKS.same("after the first hour of the day", post.sleigh(0, 3), cold == -1 ? 2 : 1);
        }
        SleighPost post = Lakes.corridor(4, 16);
        post.addSleigh(0, 1);
        post.pass(21);
        post.setCold(1, 1);
        post.send(0, 1);
        post.pass(2);
        post.setIce(1, 5, 1, 1, 12);
        post.pass(1);
        CHECKS.same("it comes on ice of 12", post.sleigh(0, 4), 81);
        post.pass(1);
        CHECKS.same("which is 13 ahead of the sinking", post.cell(1, 5, 0), 13);
        CHECKS.same("so it is not sunk", post.sleigh(0, 3), 1);
    }

    private static void beginsWhereItIsNotBorne() {
        SleighPost post = Lakes.corridor(4, 30);
        post.addSleigh(0, 6);
        post.send(0, 1);
        post.pass(1);
        post.setIce(1, 5, 1, 1, 0);
        post.pass(1);
        CHECKS.same("it is on the ice that does not bear it", post.sleigh(0, 4), 81);
        CHECKS.same("it has set out from there", post.sleigh(0, 6), 1);
        CHECKS.same("it strained the ice", post.cell(1, 5, 2), 1);
        CHECKS.same("foresee", post.foresee(0, 1), -1);
        post.pass(1);
        CHECKS.same("it is sunk ahead of going on", post.sleigh(0, 4), 81);
        CHECKS.same("sunk", post.count(3), 1);
    }

    /** Two sleighs leave a cell in one hour; the first one cracks it. Both need 13. */
    private static void orderOfSettingOut() {
        SleighPost post = Lakes.corridor(4, 22);
        post.setIce(2, 5, 1, 1, 40);
        for (int i = 0; i < 3; i++) {
            post.addSleigh(0, 1);
            post.send(i, 1);
        }
        post.pass(3);
        CHECKS.same("three have left the ice", post.cell(1, 5, 2), 3);
        CHECKS.same("it is cracked", post.cell(1, 5, 3), 1);
        CHECKS.same("all stand on it", post.cell(1, 5, 5), 3);
        post.addSleigh(0, 1);
        CHECKS.same("no way for a fourth one", post.send(3, 1), -1);
        post.pass(1);
        CHECKS.same("all three are sunk", post.count(3), 3);
        CHECKS.same("the fourth one rests on land", post.sleigh(3, 4), 80);
    }

    private static void lookingAheadChangesNothing() {
        SleighPost post = Lakes.corridor(15, 22);
        post.addSleigh(0, 1);
        post.addSleigh(1, 3);
        post.addBag(0, 1, 20);
        post.load(0, 0);
        post.setCold(1, -3);
        post.setCold(2, 7);
        post.send(0, 1);
        post.send(1, 0);
        post.pass(5);
        long before = post.digest();
        int here = post.foresee(0, 13);
        int there = post.foresee(1, 13);
        post.foresee(0, 200);
        int when = post.arrives(0);
        CHECKS.sameLong("nothing is changed", post.digest(), before);
        post.pass(13);
        CHECKS.same("foresee was right", post.sleigh(0, 4), here);
        CHECKS.same("of the other one, too", post.sleigh(1, 4), there);
        CHECKS.same("arrives tells the same later", post.arrives(0), when);
    }

    /** Looking ahead 300 hours: a sleigh that comes in the last of them arrives, one that comes later does not. */
    private static void longLook() {
        SleighPost post = Lakes.corridor(15, -1);
        post.addSleigh(0, 1);
        post.setIce(7, 5, 1, 1, 0);
        for (int day = 0; day < 8; day++) {
            post.setCold(day, 0);
        }
        CHECKS.same("no way", post.send(0, 1), -1);
        CHECKS.same("it never arrives", post.arrives(0), -1);
        post.setCold(7, 9);
        post.pass(24);
        CHECKS.same("arrives when the lake opens in the hour 168", post.arrives(0), 168 + 30);
        for (int i = 0; i < 160; i++) {
            post.setSnow(i % 16, i / 16, 9);
        }
        post.setSnow(15, 5, 1);
        CHECKS.same("in the hour 310", post.arrives(0), 168 + 142);
        post.pass(1);
        post.setSnow(1, 5, 1);
        CHECKS.same("in the hour 302", post.arrives(0), 302);
        SleighPost slow = Lakes.corridor(15, -1);
        slow.addSleigh(0, 1);
        for (int i = 0; i < 40; i++) {
            slow.addBag(0, 1, 30);
            slow.load(0, i);
        }
        CHECKS.same("21 for the weight, and 1 for the snow", slow.send(0, 1), 15 * 22);
        CHECKS.same("it does not arrive in 300 hours", slow.arrives(0), -1);
        slow.pass(30);
        CHECKS.same("nor in 300 from now on: it comes in the hour 330", slow.arrives(0), -1);
        slow.pass(1);
        CHECKS.same("it comes in the last one of 300 hours", slow.arrives(0), 330);
    }

    private static void lookingAheadIsRefused() {
        SleighPost post = Lakes.corridor(4, -1);
        post.addSleigh(0, 1);
        for (int far : FAR) {
            CHECKS.refuses("foresee of " + far, post, INDEX, () -> post.foresee(far, 0));
            CHECKS.refuses("foresee of hours " + far, post, ARGUMENT, () -> post.foresee(0, far));
            CHECKS.refuses("arrives of " + far, post, INDEX, () -> post.arrives(far));
        }
        CHECKS.refuses("foresee of no second sleigh", post, INDEX, () -> post.foresee(1, 1));
        CHECKS.refuses("foresee of no hours", post, ARGUMENT, () -> post.foresee(0, 0));
        CHECKS.refuses("foresee of 201 hours", post, ARGUMENT, () -> post.foresee(0, 201));
        CHECKS.refuses("arrives of no second sleigh", post, INDEX, () -> post.arrives(1));
        CHECKS.refuses("arrives of one that rests", post, STATE, () -> post.arrives(0));
        CHECKS.same("foresee of one that rests", post.foresee(0, 200), 80);
    }
}
