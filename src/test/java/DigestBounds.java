import java.math.BigInteger;

/** Promise 20: the digest, put together here from what the other calls tell. */
final class DigestBounds {
    /** Makes the same lake each time: what all its calls tell takes more calls than one object has. */
    private interface Making {
        SleighPost make();
    }

    private final Checks checks;
    private BigInteger d;

    DigestBounds(Checks checks) {
        this.checks = checks;
    }

    void run() {
        ofANewObject();
        wrapsAround();
        ofNumbersLessThan0();
        ofAsManyAsThereCanBe();
        ofSleighsThatAreSunk();
        ofEachHour();
    }

    private void ofANewObject() {
        checks.sentence(20, "A number d starts with 601; for each of the following numbers x, d becomes d * 31 + x");
        compare("nothing there yet", SleighPost::new);
    }

    private void wrapsAround() {
        checks.sentence(20, "which wraps around as a 64-bit integer");
        BigInteger exact = numbersOf(SleighPost::new);
        checks.same("more than 64 bits", exact.bitLength() > 64 ? 1 : 0, 1);
        checks.sameLong("what is left of it", new SleighPost().digest(), exact.longValue());
        int less = 0;
        for (int snow = 1; snow <= 9; snow++) {
            SleighPost post = new SleighPost();
            post.setSnow(0, 0, snow);
            less += post.digest() < 0 ? 1 : 0;
        }
        checks.same("some are less than 0, and some are not", less > 0 && less < 9 ? 1 : 0, 1);
    }

    private void ofNumbersLessThan0() {
        checks.sentence(20, "how cold each day of the table is; for each cell, by numbers, its thickness (-1 for land), "
                + "its snow, its strain, and 1 if it is cracked, else 0");
        compare("cold, land, snow, strain, cracks", () -> {
            SleighPost post = Lakes.cracked();
            for (int day = 0; day < 8; day++) {
                post.setCold(day, 7 - 2 * day);
            }
            post.setIce(9, 0, 7, 10, -1);
            post.setSnow(15, 9, 9);
            return post;
        });
    }

    private void ofAsManyAsThereCanBe() {
        checks.sentence(20, "the cell of each post; for each sleigh what sleigh() tells, in its order; "
                + "for each bag what bag() tells, in its order.");
        compare("8 posts, 5 sleighs, 40 bags", () -> {
            SleighPost post = new SleighPost();
            for (int i = 0; i < 8; i++) {
                post.addPost(i == 0 ? 15 : 2 * i, 9 - i);
            }
            for (int i = 0; i < 5; i++) {
                post.addSleigh(7 - i, i + 2);
            }
            for (int i = 0; i < 40; i++) {
                post.addBag(i % 8, (i + 1 + i / 8) % 8, 1 + i % 30);
                if (i % 8 > 2) {
                    post.load(7 - i % 8, i);
                }
            }
            for (int i = 0; i < 5; i++) {
                post.send(i, i);
            }
            post.pass(5);
            return post;
        });
    }

    private void ofSleighsThatAreSunk() {
        checks.sentence(20, "for each sleigh what sleigh() tells, in its order; for each bag what bag() tells, in its order.");
        compare("a sunk sleigh, lost bags, a bag that has come, one that waits", () -> {
            SleighPost post = Lakes.corridor(4, 30);
            post.addSleigh(0, 6);
            post.addSleigh(1, 1);
            for (int i = 0; i < 4; i++) {
                post.addBag(i < 3 ? 0 : 1, i < 3 ? 1 : 0, 1);
            }
            post.load(0, 0);
            post.load(0, 2);
            post.load(1, 3);
            post.send(1, 0);
            post.pass(20);
            post.send(0, 1);
            post.pass(1);
            post.setIce(1, 5, 1, 1, 0);
            post.pass(2);
            return post;
        });
    }

    private void ofEachHour() {
        checks.sentence(20, "what count() tells, in its order");
        for (int trips = 1; trips <= 12; trips++) {
            int all = trips;
            compare("after " + all + " times 19 hours", () -> travelled(all));
        }
    }

    private static SleighPost travelled(int trips) {
        SleighPost post = new SleighPost();
        post.setCold(3, -7);
        post.setIce(2, 2, 5, 1, -1);
        post.setIce(9, 9, 1, 1, 150);
        post.addPost(5, 5);
        post.addPost(2, 8);
        post.addSleigh(1, 4);
        post.addSleigh(0, 1);
        post.addBag(1, 0, 17);
        post.addBag(0, 1, 3);
        post.load(0, 0);
        for (int trip = 0; trip < trips; trip++) {
            if (post.sleigh(0, 3) == 0) {
                post.send(0, 1 - post.sleigh(0, 5));
            }
            post.pass(19);
        }
        return post;
    }

    private void compare(String when, Making making) {
        checks.sameLong("digest, " + when, making.make().digest(), numbersOf(making).longValue());
    }

    private BigInteger numbersOf(Making making) {
        d = BigInteger.valueOf(601);
        SleighPost post = making.make();
        int[] all = new int[9];
        for (int what = 0; what < 9; what++) {
            all[what] = post.count(what);
            add(all[what]);
        }
        for (int day = 0; day < 8; day++) {
            add(post.setCold(day, 0));
        }
        int[] postCells = new int[all[1]];
        for (int y = 0; y < 10; y++) {
            SleighPost row = making.make();
            for (int x = 0; x < 16; x++) {
                for (int what = 0; what < 4; what++) {
                    add(row.cell(x, y, what));
                }
                if (row.cell(x, y, 4) >= 0) {
                    postCells[row.cell(x, y, 4)] = x + 16 * y;
                }
            }
        }
        for (int cell : postCells) {
            add(cell);
        }
        addSleighs(making, all[2]);
        addBags(making, all[4]);
        return d;
    }

    private void addSleighs(Making making, int sleighs) {
        SleighPost post = making.make();
        for (int i = 0; i < sleighs; i++) {
            for (int what = 0; what < 9; what++) {
                add(post.sleigh(i, what));
            }
        }
    }

    private void addBags(Making making, int bags) {
        SleighPost post = making.make();
        for (int i = 0; i < bags; i++) {
            for (int what = 0; what < 5; what++) {
                add(post.bag(i, what));
            }
        }
    }

    private void add(long x) {
        d = d.multiply(BigInteger.valueOf(31)).add(BigInteger.valueOf(x));
    }
}
