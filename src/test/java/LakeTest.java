/** Promises 2 to 5 and 19: land, ice, snow, cold, the mean; and frost and thaw by the day. */
public final class LakeTest {
    private static final Class<IllegalArgumentException> ARGUMENT = IllegalArgumentException.class;
    private static final Class<IllegalStateException> STATE = IllegalStateException.class;
    private static final Class<IndexOutOfBoundsException> INDEX = IndexOutOfBoundsException.class;

    private static final Checks CHECKS = new Checks();

    public static void main(String[] args) {
        iceIsLaid();
        iceIsRefused();
        iceAroundPostsAndSleighs();
        snow();
        cold();
        cellIsAsked();
        meanThickness();
        frostByDays();
        thawByDays();
        tableOfEightDays();
        CHECKS.end();
    }

    private static void iceIsLaid() {
        SleighPost post = new SleighPost();
        CHECKS.same("setIce 3 by 2", post.setIce(2, 3, 3, 2, 200), 6);
        CHECKS.same("sum of it", post.count(8), 154 * 30 + 6 * 200);
        CHECKS.same("its first cell", post.cell(2, 3, 0), 200);
        CHECKS.same("its last cell", post.cell(4, 4, 0), 200);
        CHECKS.same("left of it", post.cell(1, 3, 0), 30);
        CHECKS.same("right of it", post.cell(5, 4, 0), 30);
        CHECKS.same("above it", post.cell(2, 2, 0), 30);
        CHECKS.same("below it", post.cell(4, 5, 0), 30);
        CHECKS.same("setIce of no thickness", post.setIce(15, 9, 1, 1, 0), 1);
        CHECKS.same("no thickness is ice all the same", post.cell(15, 9, 0), 0);
        CHECKS.same("setIce of all to land", post.setIce(0, 0, 16, 10, -1), 160);
        CHECKS.same("land is told as -1", post.cell(7, 7, 0), -1);
        CHECKS.same("no ice", post.count(8), 0);
    }

    private static void iceIsRefused() {
        SleighPost post = new SleighPost();
        int far = Integer.MAX_VALUE;
        int[][] wrong = {
            {-1, 0, 1, 1, 5}, {16, 0, 1, 1, 5}, {0, -1, 1, 1, 5}, {0, 10, 1, 1, 5},
            {0, 0, 0, 1, 5}, {0, 0, 1, 0, 5}, {0, 0, -1, 1, 5}, {0, 0, 1, -1, 5},
            {0, 0, 17, 1, 5}, {1, 0, 16, 1, 5}, {0, 0, 1, 11, 5}, {0, 9, 1, 2, 5},
            {0, 0, 1, 1, -2}, {0, 0, 1, 1, 201}, {15, 9, far, 1, 5}, {15, 9, 1, far, 5},
            {far, far, far, far, far}, {Integer.MIN_VALUE, 0, far, 1, 5}, {-5, 0, 6, 1, 5},
        };
        for (int[] a : wrong) {
            CHECKS.refuses("setIce" + java.util.Arrays.toString(a), post, ARGUMENT,
                    () -> post.setIce(a[0], a[1], a[2], a[3], a[4]));
        }
    }

    private static void iceAroundPostsAndSleighs() {
        SleighPost post = new SleighPost();
        post.addPost(3, 3);
        post.addPost(9, 3);
        CHECKS.refuses("ice on a post", post, STATE, () -> post.setIce(0, 0, 4, 4, 10));
        CHECKS.refuses("wrong thickness on a post", post, ARGUMENT, () -> post.setIce(0, 0, 4, 4, 201));
        CHECKS.same("land on a post", post.setIce(0, 0, 4, 4, -1), 16);
        CHECKS.same("the post stays", post.cell(3, 3, 4), 0);
        CHECKS.same("ice beside a post", post.setIce(4, 3, 5, 1, 50), 5);
        post.addSleigh(0, 6);
        post.send(0, 1);
        post.pass(2);
        CHECKS.same("the sleigh is on its first cell", post.sleigh(0, 4), 4 + 16 * 3);
        CHECKS.refuses("ice under a sleigh", post, STATE, () -> post.setIce(4, 3, 1, 1, 100));
        CHECKS.same("land under a sleigh", post.setIce(4, 3, 1, 1, -1), 1);
        CHECKS.same("ice where it goes to", post.setIce(5, 3, 1, 1, 3), 1);
        post.pass(1);
        CHECKS.same("it comes on the thin ice", post.sleigh(0, 4), 5 + 16 * 3);
        post.pass(1);
        CHECKS.same("it is sunk", post.sleigh(0, 3), 2);
        CHECKS.same("ice over a sunk sleigh", post.setIce(5, 3, 1, 1, 40), 1);
    }

    private static void snow() {
        SleighPost post = new SleighPost();
        CHECKS.same("setSnow", post.setSnow(15, 9, 9), 1);
        CHECKS.same("setSnow again", post.setSnow(15, 9, 1), 9);
        CHECKS.same("setSnow of another cell", post.setSnow(0, 0, 4), 1);
        CHECKS.same("its snow", post.cell(0, 0, 1), 4);
        post.setIce(0, 0, 1, 1, 12);
        CHECKS.same("new ice keeps the snow", post.cell(0, 0, 1), 4);
        post.setIce(0, 0, 1, 1, -1);
        CHECKS.same("land keeps the snow", post.cell(0, 0, 1), 4);
        int[][] nowhere = {{-1, 0}, {16, 0}, {0, -1}, {0, 10}, {Integer.MIN_VALUE, Integer.MAX_VALUE}};
        for (int[] a : nowhere) {
            CHECKS.refuses("setSnow nowhere", post, INDEX, () -> post.setSnow(a[0], a[1], 3));
            CHECKS.refuses("setSnow nowhere, too much", post, INDEX, () -> post.setSnow(a[0], a[1], 10));
        }
        for (int much : new int[] {0, 10, -1, Integer.MAX_VALUE, Integer.MIN_VALUE}) {
            CHECKS.refuses("setSnow " + much, post, ARGUMENT, () -> post.setSnow(0, 0, much));
        }
    }

    private static void cold() {
        SleighPost post = new SleighPost();
        CHECKS.same("setCold -9", post.setCold(7, -9), 5);
        CHECKS.same("setCold 9", post.setCold(7, 9), -9);
        CHECKS.same("setCold 0", post.setCold(0, 0), 5);
        CHECKS.same("setCold after 9", post.setCold(7, 1), 9);
        CHECKS.same("setCold after 0", post.setCold(0, 1), 0);
        for (int day : new int[] {-1, 8, Integer.MAX_VALUE, Integer.MIN_VALUE}) {
            CHECKS.refuses("setCold on the day " + day, post, INDEX, () -> post.setCold(day, 0));
            CHECKS.refuses("setCold on the day " + day + ", too cold", post, INDEX, () -> post.setCold(day, 10));
        }
        for (int much : new int[] {-10, 10, Integer.MAX_VALUE, Integer.MIN_VALUE}) {
            CHECKS.refuses("setCold " + much, post, ARGUMENT, () -> post.setCold(0, much));
        }
    }

    private static void cellIsAsked() {
        SleighPost post = new SleighPost();
        post.addPost(15, 9);
        post.addSleigh(0, 1);
        post.addSleigh(0, 2);
        int[] due = {-1, 1, 0, 0, 0, 2};
        for (int what = 0; what < due.length; what++) {
            CHECKS.same("cell of a post, " + what, post.cell(15, 9, what), due[what]);
        }
        for (int what : new int[] {-1, 6, Integer.MAX_VALUE, Integer.MIN_VALUE}) {
            CHECKS.refuses("cell what " + what, post, INDEX, () -> post.cell(0, 0, what));
        }
        int[][] nowhere = {{-1, 0}, {16, 0}, {0, -1}, {0, 10}, {Integer.MAX_VALUE, 0}, {0, Integer.MAX_VALUE}};
        for (int[] a : nowhere) {
            CHECKS.refuses("cell nowhere", post, INDEX, () -> post.cell(a[0], a[1], 0));
        }
    }

    private static void meanThickness() {
        SleighPost post = new SleighPost();
        post.setIce(0, 0, 16, 10, -1);
        CHECKS.same("mean without ice", post.mean(), 0);
        post.setIce(0, 0, 1, 1, 0);
        CHECKS.same("mean of a cell without thickness", post.mean(), 0);
        post.setIce(0, 0, 1, 1, 7);
        CHECKS.same("mean of one cell", post.mean(), 7);
        post.setIce(0, 0, 1, 1, 0);
        post.setIce(1, 0, 2, 1, 5);
        CHECKS.same("mean of 0, 5 and 5", post.mean(), 10.0 / 3.0);
    }

    private static void frostByDays() {
        SleighPost post = new SleighPost();
        post.setIce(0, 0, 1, 1, 0);
        post.setIce(1, 0, 1, 1, 9);
        post.setIce(2, 0, 1, 1, 199);
        post.setIce(3, 0, 1, 1, 200);
        post.setIce(4, 0, 1, 1, -1);
        post.setIce(5, 0, 1, 1, 130);
        post.setCold(0, 5);
        post.setCold(1, 9);
        post.setCold(2, 1);
        post.pass(1);
        CHECKS.same("frost: 0 and 60 / 6", post.cell(0, 0, 0), 10);
        CHECKS.same("frost: 9 and 60 / 6", post.cell(1, 0, 0), 19);
        CHECKS.same("frost: 199 and 60 / 25, at most 200", post.cell(2, 0, 0), 200);
        CHECKS.same("frost: 200", post.cell(3, 0, 0), 200);
        CHECKS.same("frost: land", post.cell(4, 0, 0), -1);
        CHECKS.same("frost: 130 and 60 / 19", post.cell(5, 0, 0), 133);
        CHECKS.same("frost: 30 and 60 / 9", post.cell(6, 0, 0), 36);
        post.pass(23);
        CHECKS.same("no more frost in this day", post.cell(0, 0, 0), 10);
        post.pass(1);
        CHECKS.same("second day: 10 and 108 / 7", post.cell(0, 0, 0), 25);
        CHECKS.same("second day: 36 and 108 / 9", post.cell(6, 0, 0), 48);
        post.pass(24);
        CHECKS.same("third day: 25 and 12 / 8", post.cell(0, 0, 0), 26);
        CHECKS.same("third day: 200 and 12 / 26", post.cell(3, 0, 0), 200);
    }

    private static void thawByDays() {
        SleighPost post = new SleighPost();
        post.setIce(0, 0, 1, 1, 26);
        post.setIce(1, 0, 1, 1, 27);
        post.setIce(2, 0, 1, 1, 28);
        post.setIce(3, 0, 1, 1, -1);
        post.setCold(0, -9);
        post.setCold(1, 0);
        post.setCold(2, -1);
        post.pass(24);
        CHECKS.same("thaw: 26 less 27, at least 0", post.cell(0, 0, 0), 0);
        CHECKS.same("thaw: 27 less 27", post.cell(1, 0, 0), 0);
        CHECKS.same("thaw: 28 less 27", post.cell(2, 0, 0), 1);
        CHECKS.same("thaw: land", post.cell(3, 0, 0), -1);
        CHECKS.same("thaw: 30 less 27", post.cell(4, 0, 0), 3);
        post.pass(24);
        CHECKS.same("neither cold nor thaw", post.cell(4, 0, 0), 3);
        post.pass(1);
        CHECKS.same("thaw: 3 less 3", post.cell(4, 0, 0), 0);
    }

    private static void tableOfEightDays() {
        SleighPost post = new SleighPost();
        for (int day = 0; day < 8; day++) {
            post.setCold(day, 0);
        }
        post.setCold(7, -2);
        post.pass(168);
        CHECKS.same("seven days without frost", post.cell(0, 0, 0), 30);
        post.pass(1);
        CHECKS.same("the day 7", post.cell(0, 0, 0), 24);
        post.setCold(0, 9);
        post.pass(23);
        CHECKS.same("192 hours", post.count(0), 192);
        CHECKS.same("ahead of the day 8", post.cell(0, 0, 0), 24);
        post.pass(1);
        CHECKS.same("the day 8 is the day 0 of the table: 24 and 108 / 8", post.cell(0, 0, 0), 37);
    }
}
