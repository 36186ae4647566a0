/** Lakes on which the tests begin. */
final class Lakes {
    private Lakes() {
    }

    /** Ice of 30 on which no day is cold. */
    static SleighPost still() {
        SleighPost post = new SleighPost();
        for (int day = 0; day < 8; day++) {
            post.setCold(day, 0);
        }
        return post;
    }

    /**
     * A row of cells from the post 0 at its left end, (0, 5), to the post 1 at its right end, on a lake that bears
     * nobody, and on which no day is cold.
     */
    static SleighPost corridor(int last, int thickness) {
        SleighPost post = still();
        post.setIce(0, 0, 16, 10, 0);
        post.addPost(0, 5);
        post.addPost(last, 5);
        if (last > 1) {
            post.setIce(1, 5, last - 1, 1, thickness);
        }
        return post;
    }

    /** Land that winds from the post 0 at (0, 0) to the post 1 at (15, 8), 83 cells away, on ice that bears nobody. */
    static SleighPost winding() {
        SleighPost post = still();
        post.setIce(0, 0, 16, 10, 0);
        for (int row = 0; row < 9; row += 2) {
            post.setIce(0, row, 16, 1, -1);
        }
        post.setIce(15, 1, 1, 1, -1);
        post.setIce(0, 3, 1, 1, -1);
        post.setIce(15, 5, 1, 1, -1);
        post.setIce(0, 7, 1, 1, -1);
        post.addPost(0, 0);
        post.addPost(15, 8);
        return post;
    }

    /**
     * A corridor of ice of 22 to (4, 5), which the sleigh 0 has crossed twice; then it sank where it began a third
     * time: the strain of (1, 5) is 3, it is cracked, and the strain of (2, 5) and (3, 5) is 2. The hour is 22.
     */
    static SleighPost cracked() {
        SleighPost post = corridor(4, 22);
        post.addSleigh(0, 1);
        for (int trip = 0; trip < 3; trip++) {
            post.send(0, trip == 1 ? 0 : 1);
            post.pass(trip == 2 ? 4 : 9);
        }
        return post;
    }
}
