/** Promises 6 to 12 and 14: posts, sleighs and bags, what is told of them, and what is refused. */
public final class MailTest {
    private static final Class<IllegalArgumentException> ARGUMENT = IllegalArgumentException.class;
    private static final Class<IllegalStateException> STATE = IllegalStateException.class;
    private static final Class<IndexOutOfBoundsException> INDEX = IndexOutOfBoundsException.class;
    private static final int[] FAR = {Integer.MIN_VALUE, -1, Integer.MAX_VALUE};

    private static final Checks CHECKS = new Checks();

    public static void main(String[] args) {
        posts();
        sleighs();
        bags();
        loading();
        sending();
        sleighIsAsked();
        bagIsAsked();
        counts();
        CHECKS.end();
    }

    private static void posts() {
        SleighPost post = new SleighPost();
        for (int i = 0; i < 7; i++) {
            CHECKS.same("addPost", post.addPost(2 * i, i), i);
            CHECKS.same("its cell is land", post.cell(2 * i, i, 0), -1);
            CHECKS.same("its number", post.cell(2 * i, i, 4), i);
        }
        CHECKS.refuses("a post on a post", post, STATE, () -> post.addPost(4, 2));
        CHECKS.refuses("a post in no column", post, INDEX, () -> post.addPost(16, 0));
        CHECKS.refuses("a post in no row", post, INDEX, () -> post.addPost(0, 10));
        for (int far : FAR) {
            CHECKS.refuses("a post far off", post, INDEX, () -> post.addPost(far, 0));
            CHECKS.refuses("a post far off", post, INDEX, () -> post.addPost(0, far));
        }
        CHECKS.same("the eighth post", post.addPost(15, 9), 7);
        CHECKS.refuses("a ninth post", post, STATE, () -> post.addPost(0, 9));
        CHECKS.refuses("a ninth post nowhere", post, INDEX, () -> post.addPost(-1, 9));
    }

    private static void sleighs() {
        SleighPost post = new SleighPost();
        CHECKS.refuses("a sleigh at no post", post, INDEX, () -> post.addSleigh(0, 1));
        post.addPost(1, 0);
        post.addPost(15, 9);
        for (int far : FAR) {
            CHECKS.refuses("a sleigh far off", post, INDEX, () -> post.addSleigh(far, 0));
            CHECKS.refuses("reindeer " + far, post, ARGUMENT, () -> post.addSleigh(0, far));
        }
        CHECKS.refuses("no reindeer", post, ARGUMENT, () -> post.addSleigh(0, 0));
        CHECKS.refuses("7 reindeer", post, ARGUMENT, () -> post.addSleigh(0, 7));
        for (int i = 0; i < 5; i++) {
            CHECKS.same("addSleigh", post.addSleigh(i % 2, i + 2), i);
        }
        int[] due = {3, 130, 0, 0, 159, 1, 0, 18, 0};
        for (int what = 0; what < due.length; what++) {
            CHECKS.same("a new sleigh, " + what, post.sleigh(1, what), due[what]);
        }
        CHECKS.same("sleighs at the first post", post.cell(1, 0, 5), 3);
        CHECKS.refuses("a sixth sleigh", post, STATE, () -> post.addSleigh(0, 1));
        CHECKS.refuses("a sixth sleigh without reindeer", post, ARGUMENT, () -> post.addSleigh(0, 0));
        CHECKS.refuses("a sixth sleigh nowhere", post, INDEX, () -> post.addSleigh(2, 0));
    }

    private static void bags() {
        SleighPost post = new SleighPost();
        post.addPost(0, 0);
        post.addPost(3, 0);
        CHECKS.refuses("a bag from no post", post, INDEX, () -> post.addBag(2, 0, 0));
        CHECKS.refuses("a bag to no post", post, INDEX, () -> post.addBag(0, 2, 0));
        CHECKS.refuses("a bag from and to no post", post, INDEX, () -> post.addBag(2, 2, 1));
        for (int far : FAR) {
            CHECKS.refuses("a bag from far off", post, INDEX, () -> post.addBag(far, 0, 1));
            CHECKS.refuses("a bag to far off", post, INDEX, () -> post.addBag(0, far, 1));
            CHECKS.refuses("a weight of " + far, post, ARGUMENT, () -> post.addBag(0, 1, far));
        }
        CHECKS.refuses("a bag to its own post", post, ARGUMENT, () -> post.addBag(1, 1, 5));
        CHECKS.refuses("a weight of 0", post, ARGUMENT, () -> post.addBag(0, 1, 0));
        CHECKS.refuses("a weight of 31", post, ARGUMENT, () -> post.addBag(0, 1, 31));
        CHECKS.same("the weight 1", post.addBag(1, 0, 1), 0);
        for (int i = 1; i < 40; i++) {
            CHECKS.same("addBag", post.addBag(0, 1, 30), i);
        }
        CHECKS.refuses("a 41st bag", post, STATE, () -> post.addBag(0, 1, 30));
        CHECKS.refuses("a 41st bag to its own post", post, ARGUMENT, () -> post.addBag(0, 0, 30));
        CHECKS.refuses("a 41st bag nowhere", post, INDEX, () -> post.addBag(0, 2, 31));
        int[] due = {1, 0, 0, 1, -1};
        for (int what = 0; what < due.length; what++) {
            CHECKS.same("a new bag, " + what, post.bag(0, what), due[what]);
        }
    }

    private static void loading() {
        SleighPost post = new SleighPost();
        post.addPost(0, 0);
        post.addPost(3, 0);
        post.addSleigh(0, 1);
        post.addSleigh(1, 1);
        post.addBag(0, 1, 30);
        post.addBag(0, 1, 4);
        post.addBag(1, 0, 7);
        CHECKS.same("load", post.load(0, 0), 100);
        CHECKS.same("load more", post.load(0, 1), 104);
        CHECKS.same("bags on it", post.sleigh(0, 8), 2);
        CHECKS.same("its weight", post.sleigh(0, 1), 104);
        CHECKS.same("the ice that it needs", post.sleigh(0, 7), 16);
        CHECKS.same("the bag is on a sleigh", post.bag(1, 2), 1);
        CHECKS.same("on this one", post.bag(1, 3), 0);
        CHECKS.refuses("a bag that is loaded", post, STATE, () -> post.load(0, 0));
        CHECKS.refuses("a bag at another post", post, STATE, () -> post.load(0, 2));
        CHECKS.refuses("a bag on another sleigh", post, STATE, () -> post.load(1, 0));
        for (int far : FAR) {
            CHECKS.refuses("no such sleigh", post, INDEX, () -> post.load(far, 0));
            CHECKS.refuses("no such bag", post, INDEX, () -> post.load(0, far));
        }
        CHECKS.refuses("no third sleigh", post, INDEX, () -> post.load(2, 0));
        CHECKS.refuses("no fourth bag", post, INDEX, () -> post.load(0, 3));
        post.send(1, 0);
        CHECKS.refuses("a sleigh that is under way", post, STATE, () -> post.load(1, 2));
        CHECKS.same("the bag waits", post.bag(2, 2), 0);
    }

    private static void sending() {
        SleighPost post = new SleighPost();
        post.addPost(0, 0);
        post.addPost(3, 2);
        post.addPost(0, 9);
        post.addSleigh(0, 2);
        CHECKS.refuses("to where it rests", post, ARGUMENT, () -> post.send(0, 0));
        for (int far : FAR) {
            CHECKS.refuses("no such sleigh", post, INDEX, () -> post.send(far, 0));
            CHECKS.refuses("no such post", post, INDEX, () -> post.send(0, far));
        }
        CHECKS.refuses("no second sleigh", post, INDEX, () -> post.send(1, 1));
        CHECKS.refuses("no fourth post", post, INDEX, () -> post.send(0, 3));
        CHECKS.same("send, 5 cells", post.send(0, 1), 5);
        CHECKS.same("it is under way", post.sleigh(0, 3), 1);
        CHECKS.same("to this post", post.sleigh(0, 5), 1);
        CHECKS.same("it has not set out", post.sleigh(0, 6), 0);
        CHECKS.refuses("under way, to another post", post, STATE, () -> post.send(0, 2));
        CHECKS.refuses("under way, to its goal", post, STATE, () -> post.send(0, 1));
        CHECKS.refuses("under way, to where it was", post, STATE, () -> post.send(0, 0));
        CHECKS.same("it comes", post.pass(6), 0);
        CHECKS.same("it rests", post.sleigh(0, 3), 0);
        post.setIce(0, 8, 1, 1, 0);
        post.setIce(1, 9, 1, 1, 0);
        CHECKS.same("send without a way", post.send(0, 2), -1);
        CHECKS.same("it is under way all the same", post.sleigh(0, 3), 1);
        post.pass(2);
        CHECKS.same("it stays", post.sleigh(0, 4), 35);
        CHECKS.same("it is not between two", post.sleigh(0, 6), 0);
        post.setIce(0, 8, 1, 1, -1);
        post.pass(1);
        CHECKS.same("it looks again, and sets out", post.sleigh(0, 6), 1);
    }

    private static void sleighIsAsked() {
        SleighPost post = new SleighPost();
        post.addPost(0, 0);
        post.addPost(3, 0);
        post.addSleigh(0, 1);
        post.addBag(0, 1, 10);
        post.load(0, 0);
        post.setSnow(1, 0, 4);
        post.setIce(0, 1, 16, 9, 0);
        post.send(0, 1);
        post.pass(3);
        int[] between = {1, 80, 0, 1, 0, 1, 3, 14, 1};
        for (int what = 0; what < between.length; what++) {
            CHECKS.same("between two cells, " + what, post.sleigh(0, what), between[what]);
        }
        CHECKS.same("it counts as on the cell that it left", post.cell(0, 0, 5), 1);
        CHECKS.same("not as on the next one", post.cell(1, 0, 5), 0);
        CHECKS.same("its mail comes", post.pass(7), 1);
        int[] come = {1, 70, 1, 0, 3, 1, 0, 13, 0};
        for (int what = 0; what < come.length; what++) {
            CHECKS.same("at its goal, " + what, post.sleigh(0, what), come[what]);
        }
        for (int far : FAR) {
            CHECKS.refuses("no such sleigh", post, INDEX, () -> post.sleigh(far, 0));
            CHECKS.refuses("no such question", post, INDEX, () -> post.sleigh(0, far));
        }
        CHECKS.refuses("no second sleigh", post, INDEX, () -> post.sleigh(1, 0));
        CHECKS.refuses("no tenth question", post, INDEX, () -> post.sleigh(0, 9));
    }

    private static void bagIsAsked() {
        SleighPost post = new SleighPost();
        post.addPost(0, 0);
        post.addPost(3, 0);
        post.addPost(6, 0);
        post.addSleigh(0, 6);
        post.addBag(0, 2, 10);
        post.addBag(0, 1, 9);
        post.load(0, 0);
        post.load(0, 1);
        post.send(0, 1);
        CHECKS.same("one bag comes", post.pass(5), 1);
        int[] come = {9, 1, 2, 1, 3};
        int[] waits = {10, 2, 0, 1, -1};
        for (int what = 0; what < come.length; what++) {
            CHECKS.same("a bag that has come, " + what, post.bag(1, what), come[what]);
            CHECKS.same("a bag that waits on its way, " + what, post.bag(0, what), waits[what]);
        }
        CHECKS.refuses("a bag that has come is not loaded", post, STATE, () -> post.load(0, 1));
        CHECKS.same("the other one is", post.load(0, 0), 230);
        post.send(0, 2);
        CHECKS.same("it comes", post.pass(10), 1);
        CHECKS.same("in this hour", post.bag(0, 4), 8);
        for (int far : FAR) {
            CHECKS.refuses("no such bag", post, INDEX, () -> post.bag(far, 0));
            CHECKS.refuses("no such question", post, INDEX, () -> post.bag(0, far));
        }
        CHECKS.refuses("no third bag", post, INDEX, () -> post.bag(2, 0));
        CHECKS.refuses("no sixth question", post, INDEX, () -> post.bag(0, 5));
    }

    private static void counts() {
        SleighPost post = new SleighPost();
        post.setIce(0, 0, 16, 10, 0);
        post.addPost(0, 0);
        post.addPost(3, 0);
        post.setIce(1, 0, 2, 1, 40);
        for (int day = 0; day < 8; day++) {
            post.setCold(day, 0);
        }
        post.addSleigh(0, 6);
        post.addSleigh(0, 6);
        for (int i = 0; i < 5; i++) {
            post.addBag(0, 1, 1 + i);
            post.load(i < 3 ? 0 : 1, i);
        }
        post.send(0, 1);
        CHECKS.same("three bags come", post.pass(4), 3);
        post.send(1, 1);
        post.pass(2);
        post.setIce(2, 0, 1, 1, 3);
        CHECKS.same("none comes", post.pass(200), 0);
        int[] due = {206, 2, 2, 1, 5, 3, 2, 0, 43};
        for (int what = 0; what < due.length; what++) {
            CHECKS.same("count " + what, post.count(what), due[what]);
        }
        int[] sunk = {6, 220, 2, 2, 2, -1, 0, 26, 0};
        for (int what = 0; what < sunk.length; what++) {
            CHECKS.same("a sunk sleigh, " + what, post.sleigh(1, what), sunk[what]);
        }
        int[] lost = {5, 1, 3, -1, -1};
        for (int what = 0; what < lost.length; what++) {
            CHECKS.same("a lost bag, " + what, post.bag(4, what), lost[what]);
        }
        CHECKS.same("a sunk sleigh is not on its cell", post.cell(2, 0, 5), 0);
        CHECKS.refuses("a sunk sleigh is not sent", post, STATE, () -> post.send(1, 0));
        CHECKS.refuses("a lost bag is not loaded", post, STATE, () -> post.load(0, 4));
        for (int far : FAR) {
            CHECKS.refuses("no such question", post, INDEX, () -> post.count(far));
        }
        CHECKS.refuses("no tenth question", post, INDEX, () -> post.count(9));
    }
}
