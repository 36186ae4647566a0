/** Promise 20: the digest, put together here from what the other calls tell. */
public final class DigestTest {
    private static final Checks CHECKS = new Checks();
    private static long d;

    public static void main(String[] args) {
        SleighPost post = new SleighPost();
        compare("new", post);
        post.setCold(3, -7);
        compare("cold", post);
        post.setSnow(4, 4, 8);
        post.setIce(2, 2, 5, 1, -1);
        post.setIce(9, 9, 1, 1, 150);
        compare("snow, land, ice", post);
        post.addPost(5, 5);
        post.addPost(2, 8);
        compare("posts", post);
        post.addSleigh(1, 4);
        post.addSleigh(0, 1);
        compare("sleighs", post);
        post.addBag(1, 0, 17);
        post.addBag(0, 1, 3);
        post.load(0, 0);
        compare("mail", post);
        for (int trip = 0; trip < 12; trip++) {
            if (post.sleigh(0, 3) == 0) {
                post.send(0, 1 - post.sleigh(0, 5));
            }
            post.pass(19);
            compare("hour " + post.count(0), post);
        }
        post.setCold(post.count(0) / 24 % 8, -9);
        post.setIce(0, 0, 5, 5, 15);
        compare("last", post);
        CHECKS.end();
    }

    private static void add(long x) {
        d = d * 31 + x;
    }

    private static void compare(String when, SleighPost post) {
        d = 601;
        for (int what = 0; what < 9; what++) {
            add(post.count(what));
        }
        for (int day = 0; day < 8; day++) {
            int cold = post.setCold(day, 0);
            post.setCold(day, cold);
            add(cold);
        }
        int[] cells = new int[8];
        for (int i = 0; i < 160; i++) {
            for (int what = 0; what < 4; what++) {
                add(post.cell(i % 16, i / 16, what));
            }
            if (post.cell(i % 16, i / 16, 4) >= 0) {
                cells[post.cell(i % 16, i / 16, 4)] = i;
            }
        }
        for (int i = 0; i < post.count(1); i++) {
            add(cells[i]);
        }
        for (int i = 0; i < post.count(2); i++) {
            for (int what = 0; what < 9; what++) {
                add(post.sleigh(i, what));
            }
        }
        for (int i = 0; i < post.count(4); i++) {
            for (int what = 0; what < 5; what++) {
                add(post.bag(i, what));
            }
        }
        CHECKS.sameLong("digest, " + when, post.digest(), d);
    }
}
