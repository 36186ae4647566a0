/** Promises 6 to 12: each sentence that names a bound has a test of its own. */
final class MailBounds {
    private static final int LEAST = Integer.MIN_VALUE;
    private static final int MOST = Integer.MAX_VALUE;

    private final Checks checks;

    MailBounds(Checks checks) {
        this.checks = checks;
    }

    void run() {
        postColumns();
        postRows();
        postNumbers();
        postOnPost();
        postIsLand();
        postNamesTheFirst();
        sleighPosts();
        sleighReindeer();
        sleighNumbers();
        sleighBegins();
        sleighNamesTheFirst();
        bagFrom();
        bagTo();
        bagToItsOwnPost();
        bagWeight();
        bagNumbers();
        bagBegins();
        bagNamesTheFirst();
        loadSleighs();
        loadBags();
        loadAnswer();
        loadWhatDoesNotWait();
        loadWhatHasCome();
        loadWhatIsLost();
        loadAtAnotherPost();
        loadWhatDoesNotRest();
        loadAllBags();
        sendSleighs();
        sendPosts();
        sendWhereItRests();
        sendWhatDoesNotRest();
        sendAnswer();
        sendWithoutWay();
        sendATiredOne();
        askSleighs();
        askSleighQuestions();
        askSleighThatRests();
        askSleighBetweenTwo();
        askSleighThatIsSunk();
        askThickness();
        askBags();
        askBagQuestions();
        askBagThatWaits();
        askBagOnSleigh();
        askBagThatHasCome();
        askBagThatIsLost();
    }

    /** The posts 0, 1 and 2 on a lake of ice that bears all. */
    private static SleighPost threePosts() {
        SleighPost post = Lakes.still();
        post.setIce(0, 0, 16, 10, 200);
        post.addPost(0, 0);
        post.addPost(3, 0);
        post.addPost(3, 2);
        return post;
    }

    // ---- promise 6

    private void postColumns() {
        checks.sentence(6, "the column");
        SleighPost post = new SleighPost();
        checks.same("0", post.addPost(0, 4), 0);
        checks.same("15", post.addPost(15, 4), 1);
        checks.same("its cell", post.cell(15, 4, 4), 1);
        checks.sentence(6, "if there is no such cell");
        for (int x : new int[] {-1, 16, LEAST, MOST}) {
            checks.index("x " + x, post, () -> post.addPost(x, 5));
        }
    }

    private void postRows() {
        checks.sentence(6, "the row");
        SleighPost post = new SleighPost();
        checks.same("0", post.addPost(4, 0), 0);
        checks.same("9", post.addPost(4, 9), 1);
        checks.same("its cell", post.cell(4, 9, 4), 1);
        checks.sentence(6, "if there is no such cell");
        for (int y : new int[] {-1, 10, 15, LEAST, MOST}) {
            checks.index("y " + y, post, () -> post.addPost(5, y));
        }
    }

    private void postNumbers() {
        checks.sentence(6, "Returns its number.");
        SleighPost post = new SleighPost();
        for (int i = 0; i < 8; i++) {
            checks.same("a post", post.addPost(15 - i, 9), i);
            checks.same("posts", post.count(1), i + 1);
        }
        checks.sentence(6, "or there are 8");
        checks.state("a ninth post", post, () -> post.addPost(0, 0));
        post.setIce(15, 9, 1, 1, -1);
        checks.state("a ninth post, after land was told on the first one", post, () -> post.addPost(0, 0));
    }

    private void postOnPost() {
        checks.sentence(6, "if there is one on this cell");
        SleighPost post = new SleighPost();
        post.addPost(5, 5);
        post.addPost(9, 5);
        checks.state("on the first one", post, () -> post.addPost(5, 5));
        checks.state("on the last one", post, () -> post.addPost(9, 5));
        checks.same("beside it", post.addPost(6, 5), 2);
        checks.same("on the other side", post.addPost(5, 4), 3);
        post.setIce(0, 0, 1, 1, -1);
        checks.same("on land", post.addPost(0, 0), 4);
        post.setIce(1, 0, 1, 1, 0);
        checks.same("on ice of 0", post.addPost(1, 0), 5);
    }

    private void postIsLand() {
        checks.sentence(0, "each on a cell of its own, which is land from then on");
        SleighPost post = Lakes.cracked();
        post.setSnow(1, 5, 7);
        checks.same("on a cracked cell", post.addPost(1, 5), 2);
        int[] due = {-1, 7, 0, 0, 2, 0};
        for (int what = 0; what < due.length; what++) {
            checks.same("its cell, " + what, post.cell(1, 5, what), due[what]);
        }
        checks.same("cracked cells", post.count(7), 0);
        post.setCold(0, 9);
        post.setCold(1, 9);
        post.pass(48);
        checks.same("it does not freeze", post.cell(1, 5, 0), -1);
    }

    private void postNamesTheFirst() {
        checks.sentence(0, "If several exceptions apply, the one that is named first is thrown.");
        SleighPost post = new SleighPost();
        for (int i = 0; i < 8; i++) {
            post.addPost(i, 0);
        }
        checks.index("a ninth post in the column 16", post, () -> post.addPost(16, 0));
        checks.index("a ninth post in the row -1", post, () -> post.addPost(0, -1));
    }

    // ---- promise 7

    private void sleighPosts() {
        checks.sentence(7, "the post");
        SleighPost none = new SleighPost();
        checks.index("at the post 0 ahead of the first one", none, () -> none.addSleigh(0, 1));
        SleighPost post = threePosts();
        checks.same("at the first post", post.addSleigh(0, 1), 0);
        checks.same("at the last post", post.addSleigh(2, 1), 1);
        checks.same("its post", post.sleigh(1, 5), 2);
        checks.sentence(7, "if there is no such post");
        for (int at : new int[] {-1, 3, 7, 8, LEAST, MOST}) {
            checks.index("" + at, post, () -> post.addSleigh(at, 1));
        }
        for (int i = 3; i < 8; i++) {
            post.addPost(15, i);
        }
        checks.same("at the eighth post", post.addSleigh(7, 1), 2);
    }

    private void sleighReindeer() {
        checks.sentence(7, "how many reindeer it has");
        SleighPost post = threePosts();
        checks.same("1", post.addSleigh(0, 1), 0);
        checks.same("6", post.addSleigh(0, 6), 1);
        checks.same("told", post.sleigh(0, 0), 1);
        checks.same("told", post.sleigh(1, 0), 6);
        checks.sentence(7, "if reindeer is not 1 to 6");
        for (int reindeer : new int[] {0, 7, -1, LEAST, MOST}) {
            checks.argument("" + reindeer, post, () -> post.addSleigh(0, reindeer));
        }
    }

    private void sleighNumbers() {
        checks.sentence(7, "Returns its number.");
        SleighPost post = threePosts();
        for (int i = 0; i < 5; i++) {
            checks.same("a sleigh", post.addSleigh(i % 3, 6), i);
            checks.same("sleighs", post.count(2), i + 1);
        }
        checks.sentence(7, "if there are 5");
        checks.state("a sixth sleigh", post, () -> post.addSleigh(0, 6));
        post.setIce(1, 0, 1, 1, 26);
        post.setIce(0, 1, 1, 1, 0);
        post.send(0, 1);
        post.pass(1);
        post.setIce(1, 0, 1, 1, 0);
        post.pass(2);
        checks.same("one is sunk", post.count(3), 1);
        checks.state("a sixth sleigh, after one is sunk", post, () -> post.addSleigh(0, 6));
    }

    private void sleighBegins() {
        checks.sentence(0, "Its weight is 40, and 30 for each reindeer, and that of the mail that it has. "
                + "It is tired, 0 to 100 (0, at first).");
        for (int reindeer = 1; reindeer <= 6; reindeer++) {
            SleighPost post = threePosts();
            post.addSleigh(2, reindeer);
            int weight = 40 + 30 * reindeer;
            int[] due = {reindeer, weight, 0, 0, 3 + 16 * 2, 2, 0, 8 + weight / 12, 0};
            for (int what = 0; what < due.length; what++) {
                checks.same("a new sleigh, " + what, post.sleigh(0, what), due[what]);
            }
        }
    }

    private void sleighNamesTheFirst() {
        checks.sentence(0, "If several exceptions apply, the one that is named first is thrown.");
        SleighPost post = threePosts();
        checks.index("addSleigh at no post without reindeer", post, () -> post.addSleigh(3, 0));
        for (int i = 0; i < 5; i++) {
            post.addSleigh(0, 1);
        }
        checks.index("a sixth sleigh at no post", post, () -> post.addSleigh(-1, 7));
        checks.argument("a sixth sleigh without reindeer", post, () -> post.addSleigh(0, 0));
        checks.argument("a sixth sleigh with 7 reindeer", post, () -> post.addSleigh(0, 7));
    }

    // ---- promise 8

    private void bagFrom() {
        checks.sentence(8, "the post where it waits");
        SleighPost post = threePosts();
        checks.same("the first post", post.addBag(0, 1, 1), 0);
        checks.same("the last post", post.addBag(2, 1, 1), 1);
        checks.same("where it waits", post.bag(1, 3), 2);
        checks.sentence(8, "if there is no such post");
        for (int from : new int[] {-1, 3, 8, LEAST, MOST}) {
            checks.index("from " + from, post, () -> post.addBag(from, 1, 1));
        }
    }

    private void bagTo() {
        checks.sentence(8, "the post to which it goes");
        SleighPost post = threePosts();
        checks.same("the first post", post.addBag(1, 0, 1), 0);
        checks.same("the last post", post.addBag(1, 2, 1), 1);
        checks.same("where it goes", post.bag(1, 1), 2);
        checks.sentence(8, "if there is no such post");
        for (int to : new int[] {-1, 3, 8, LEAST, MOST}) {
            checks.index("to " + to, post, () -> post.addBag(1, to, 1));
        }
    }

    private void bagToItsOwnPost() {
        checks.sentence(8, "if both are the same");
        SleighPost post = threePosts();
        for (int at = 0; at < 3; at++) {
            int same = at;
            checks.argument("" + same, post, () -> post.addBag(same, same, 1));
        }
        checks.index("3, which is not there", post, () -> post.addBag(3, 3, 1));
    }

    private void bagWeight() {
        checks.sentence(8, "its weight");
        SleighPost post = threePosts();
        checks.same("1", post.addBag(0, 1, 1), 0);
        checks.same("30", post.addBag(0, 1, 30), 1);
        checks.same("told", post.bag(0, 0), 1);
        checks.same("told", post.bag(1, 0), 30);
        checks.sentence(8, "or weight is not 1 to 30");
        for (int weight : new int[] {0, 31, -1, LEAST, MOST}) {
            checks.argument("" + weight, post, () -> post.addBag(0, 1, weight));
        }
    }

    private void bagNumbers() {
        checks.sentence(8, "Returns its number.");
        SleighPost post = threePosts();
        for (int i = 0; i < 40; i++) {
            checks.same("a bag", post.addBag(i % 3, (i + 1) % 3, 1 + i % 30), i);
            checks.same("bags", post.count(4), i + 1);
        }
        checks.same("the last one's weight", post.bag(39, 0), 10);
        checks.sentence(8, "if there are 40");
        checks.state("a 41st bag", post, () -> post.addBag(0, 1, 1));
        post.addSleigh(0, 6);
        post.load(0, 0);
        post.send(0, 1);
        checks.same("a bag comes", post.pass(10), 1);
        checks.state("a 41st bag, after one has come", post, () -> post.addBag(0, 1, 1));
    }

    private void bagBegins() {
        checks.sentence(0, "it waits at a post, is on a sleigh, has come, or is lost.");
        SleighPost post = threePosts();
        post.addBag(2, 1, 17);
        int[] due = {17, 1, 0, 2, -1};
        for (int what = 0; what < due.length; what++) {
            checks.same("a new bag, " + what, post.bag(0, what), due[what]);
        }
    }

    private void bagNamesTheFirst() {
        checks.sentence(0, "If several exceptions apply, the one that is named first is thrown.");
        SleighPost post = threePosts();
        checks.index("addBag from no post, of 0", post, () -> post.addBag(-1, 0, 0));
        checks.index("addBag to no post, of 31", post, () -> post.addBag(0, 3, 31));
        for (int i = 0; i < 40; i++) {
            post.addBag(0, 1, 1);
        }
        checks.index("a 41st bag to no post", post, () -> post.addBag(0, 3, 0));
        checks.argument("a 41st bag to its own post", post, () -> post.addBag(0, 0, 1));
        checks.argument("a 41st bag of 0", post, () -> post.addBag(0, 1, 0));
        checks.argument("a 41st bag of 31", post, () -> post.addBag(0, 1, 31));
    }

    // ---- promise 9

    private void loadSleighs() {
        checks.sentence(9, "the sleigh");
        SleighPost post = threePosts();
        post.addBag(0, 1, 1);
        post.addBag(0, 1, 2);
        checks.index("the sleigh 0 ahead of the first one", post, () -> post.load(0, 0));
        for (int i = 0; i < 3; i++) {
            post.addSleigh(0, 1);
        }
        checks.same("the first sleigh", post.load(0, 0), 71);
        checks.same("the last sleigh", post.load(2, 1), 72);
        checks.sentence(9, "if there is no such sleigh or bag");
        post.addBag(0, 1, 3);
        for (int sleigh : new int[] {-1, 3, 5, LEAST, MOST}) {
            checks.index("sleigh " + sleigh, post, () -> post.load(sleigh, 2));
        }
    }

    private void loadBags() {
        checks.sentence(9, "the bag");
        SleighPost post = threePosts();
        post.addSleigh(0, 1);
        checks.index("the bag 0 ahead of the first one", post, () -> post.load(0, 0));
        for (int i = 0; i < 3; i++) {
            post.addBag(0, 1, 1 + i);
        }
        checks.same("the first bag", post.load(0, 0), 71);
        checks.same("the last bag", post.load(0, 2), 74);
        checks.sentence(9, "if there is no such sleigh or bag");
        for (int bag : new int[] {-1, 3, 40, LEAST, MOST}) {
            checks.index("bag " + bag, post, () -> post.load(0, bag));
        }
    }

    private void loadAnswer() {
        checks.sentence(9, "Returns the weight of the sleigh then.");
        SleighPost post = threePosts();
        post.addSleigh(1, 6);
        post.addBag(1, 0, 30);
        post.addBag(1, 2, 1);
        checks.same("220 and 30", post.load(0, 0), 250);
        checks.same("and 1", post.load(0, 1), 251);
        checks.same("its weight", post.sleigh(0, 1), 251);
        checks.same("its bags", post.sleigh(0, 8), 2);
    }

    private void loadWhatDoesNotWait() {
        checks.sentence(9, "if the bag does not wait");
        SleighPost post = threePosts();
        post.addSleigh(0, 1);
        post.addSleigh(0, 1);
        post.addBag(0, 1, 9);
        post.load(0, 0);
        checks.state("a bag that is on this sleigh", post, () -> post.load(0, 0));
        checks.state("a bag that is on another one", post, () -> post.load(1, 0));
        post.addSleigh(1, 1);
        checks.state("a bag on the sleigh 0, by a sleigh at its goal", post, () -> post.load(2, 0));
    }

    private void loadWhatHasCome() {
        checks.sentence(9, "if the bag does not wait");
        SleighPost post = threePosts();
        post.addSleigh(0, 1);
        post.addBag(0, 1, 9);
        post.load(0, 0);
        post.send(0, 1);
        post.pass(10);
        checks.same("the bag has come", post.bag(0, 2), 2);
        checks.same("to where the sleigh rests", post.sleigh(0, 5), post.bag(0, 3));
        checks.state("a bag that has come", post, () -> post.load(0, 0));
    }

    private void loadWhatIsLost() {
        checks.sentence(9, "if the bag does not wait");
        SleighPost post = Lakes.corridor(4, 30);
        post.addSleigh(0, 6);
        post.addBag(0, 1, 9);
        post.load(0, 0);
        post.send(0, 1);
        post.pass(1);
        post.setIce(1, 5, 1, 1, 0);
        post.pass(2);
        checks.same("the bag is lost", post.bag(0, 2), 3);
        post.addSleigh(0, 1);
        checks.state("a bag that is lost", post, () -> post.load(1, 0));
        checks.state("a bag that is lost, by the sunk sleigh", post, () -> post.load(0, 0));
    }

    private void loadAtAnotherPost() {
        checks.sentence(9, "or the sleigh does not rest at this post");
        SleighPost post = threePosts();
        post.addSleigh(0, 1);
        post.addBag(1, 0, 1);
        post.addBag(2, 0, 1);
        checks.state("a bag to where the sleigh rests", post, () -> post.load(0, 0));
        checks.state("a bag at a third post", post, () -> post.load(0, 1));
    }

    private void loadWhatDoesNotRest() {
        checks.sentence(9, "or the sleigh does not rest at this post");
        SleighPost post = threePosts();
        post.addSleigh(0, 1);
        post.addBag(0, 2, 1);
        post.addBag(1, 2, 1);
        post.send(0, 1);
        checks.state("under way, on the post's cell", post, () -> post.load(0, 0));
        checks.state("under way to the post", post, () -> post.load(0, 1));
        post.pass(10);
        checks.same("it rests at its goal", post.load(0, 1), 71);
        SleighPost sunk = Lakes.cracked();
        sunk.addBag(0, 1, 1);
        sunk.addBag(1, 0, 1);
        checks.state("a sunk sleigh", sunk, () -> sunk.load(0, 0));
        checks.state("a sunk sleigh, at its goal", sunk, () -> sunk.load(0, 1));
    }

    private void loadAllBags() {
        checks.sentence(0, "There are at most 40 bags, numbered likewise; each has a weight, 1 to 30");
        SleighPost post = threePosts();
        post.addSleigh(0, 6);
        for (int i = 0; i < 40; i++) {
            post.addBag(0, i % 2 == 0 ? 1 : 2, 30);
            checks.same("load", post.load(0, i), 220 + 30 * (i + 1));
        }
        checks.same("all on one sleigh", post.sleigh(0, 8), 40);
        checks.same("the thickness that it needs", post.sleigh(0, 7), 8 + 1420 / 12);
        post.send(0, 1);
        checks.same("half of them come", post.pass(50), 20);
        checks.same("bags that have come", post.count(5), 20);
        checks.same("none is on it", post.sleigh(0, 8), 0);
        checks.same("its weight", post.sleigh(0, 1), 220);
        checks.same("the rest of them waits there", post.load(0, 39), 250);
    }

    // ---- promise 10

    private void sendSleighs() {
        checks.sentence(10, "the sleigh");
        SleighPost post = threePosts();
        checks.index("the sleigh 0 ahead of the first one", post, () -> post.send(0, 1));
        post.addSleigh(0, 6);
        post.addSleigh(0, 6);
        checks.same("the first sleigh", post.send(0, 1), 3);
        checks.same("the last sleigh", post.send(1, 1), 3);
        checks.sentence(10, "if there is no such sleigh or post");
        for (int sleigh : new int[] {-1, 2, 5, LEAST, MOST}) {
            checks.index("sleigh " + sleigh, post, () -> post.send(sleigh, 1));
        }
    }

    private void sendPosts() {
        checks.sentence(10, "the post");
        SleighPost post = threePosts();
        post.addSleigh(1, 6);
        post.addSleigh(1, 6);
        post.addSleigh(1, 6);
        checks.same("the first post", post.send(0, 0), 3);
        checks.same("the last post", post.send(1, 2), 2);
        checks.sentence(10, "if there is no such sleigh or post");
        for (int to : new int[] {-1, 3, 8, LEAST, MOST}) {
            checks.index("post " + to, post, () -> post.send(2, to));
            checks.index("post " + to + ", of one that is under way", post, () -> post.send(0, to));
        }
        SleighPost sunk = Lakes.cracked();
        checks.index("no such post, of a sunk one", sunk, () -> sunk.send(0, 2));
        checks.index("the post -1, of a sunk one", sunk, () -> sunk.send(0, -1));
    }

    private void sendWhereItRests() {
        checks.sentence(10, "if it is the post where it rests");
        SleighPost post = threePosts();
        post.addSleigh(2, 6);
        checks.argument("where it began", post, () -> post.send(0, 2));
        post.send(0, 0);
        post.pass(10);
        checks.argument("where it came", post, () -> post.send(0, 0));
        checks.same("where it began, then", post.send(0, 2), 5);
    }

    private void sendWhatDoesNotRest() {
        checks.sentence(10, "if it does not rest");
        SleighPost post = threePosts();
        post.addSleigh(0, 6);
        post.send(0, 1);
        checks.state("to where it was", post, () -> post.send(0, 0));
        checks.state("to where it goes", post, () -> post.send(0, 1));
        checks.state("to a third post", post, () -> post.send(0, 2));
        post.pass(2);
        checks.state("between two cells", post, () -> post.send(0, 2));
        post.pass(2);
        checks.same("it rests", post.send(0, 2), 2);
        SleighPost sunk = Lakes.cracked();
        checks.state("a sunk one", sunk, () -> sunk.send(0, 0));
        checks.state("a sunk one, to its goal", sunk, () -> sunk.send(0, 1));
    }

    private void sendAnswer() {
        checks.sentence(10, "Returns the hours of its way, by all as it is now; -1 if there is none");
        SleighPost post = threePosts();
        post.addSleigh(0, 1);
        post.addBag(0, 1, 30);
        post.addBag(0, 1, 19);
        post.addBag(0, 1, 1);
        post.setSnow(0, 0, 9);
        post.setSnow(3, 0, 4);
        post.load(0, 0);
        post.load(0, 1);
        checks.same("its weight is 119: 2 hours, 2 hours and 5 hours", post.send(0, 1), 9);
        post.addSleigh(0, 1);
        post.addBag(0, 1, 30);
        post.addBag(0, 1, 19);
        post.load(1, 2);
        post.load(1, 3);
        post.load(1, 4);
        checks.same("its weight is 120: 3 hours, 3 hours and 6 hours", post.send(1, 1), 12);
    }

    private void sendWithoutWay() {
        checks.sentence(10, "-1 if there is none (it is under way all the same)");
        SleighPost post = Lakes.corridor(4, 30);
        post.addSleigh(0, 1);
        post.setIce(1, 5, 1, 1, 12);
        checks.same("it needs 13", post.send(0, 1), -1);
        checks.same("it is under way", post.sleigh(0, 3), 1);
        checks.same("to this post", post.sleigh(0, 5), 1);
        checks.same("none comes", post.pass(200), 0);
        checks.same("it stays", post.sleigh(0, 4), 80);
        checks.same("it is not between two", post.sleigh(0, 6), 0);
        checks.state("it is not sent again", post, () -> post.send(0, 1));
        post.setIce(1, 5, 1, 1, 13);
        post.pass(1);
        checks.same("it sets out", post.sleigh(0, 6), 2);
    }

    private void sendATiredOne() {
        checks.sentence(10, "Returns the hours of its way, by all as it is now; -1 if there is none");
        SleighPost post = Lakes.winding();
        post.addSleigh(0, 6);
        post.send(0, 1);
        post.pass(50 + 2 * 33 + 1);
        checks.same("it came after 83 cells, and rested an hour", post.sleigh(0, 2), 81);
        post.pass(15);
        checks.same("tired 51", post.sleigh(0, 2), 51);
        checks.same("hours of a tired one", post.send(0, 0), 2 * 83);
        SleighPost rested = Lakes.winding();
        rested.addSleigh(0, 6);
        rested.send(0, 1);
        rested.pass(50 + 2 * 33 + 17);
        checks.same("tired 49", rested.sleigh(0, 2), 49);
        checks.same("hours of one that is less tired", rested.send(0, 0), 83);
    }

    // ---- promise 11

    private void askSleighs() {
        checks.sentence(11, "a sleigh");
        SleighPost post = threePosts();
        checks.index("the sleigh 0 ahead of the first one", post, () -> post.sleigh(0, 0));
        for (int i = 0; i < 5; i++) {
            checks.index("the next sleigh", post, () -> post.sleigh(post.count(2), 0));
            post.addSleigh(0, i + 2);
        }
        checks.same("the first sleigh", post.sleigh(0, 0), 2);
        checks.same("the last sleigh", post.sleigh(4, 0), 6);
        checks.sentence(11, "if there is no such sleigh, or what is not 0 to 8");
        for (int sleigh : new int[] {-1, 5, LEAST, MOST}) {
            checks.index("sleigh " + sleigh, post, () -> post.sleigh(sleigh, 0));
        }
    }

    private void askSleighQuestions() {
        checks.sentence(11, "or what is not 0 to 8");
        SleighPost post = threePosts();
        post.addSleigh(0, 4);
        checks.same("0", post.sleigh(0, 0), 4);
        checks.same("8", post.sleigh(0, 8), 0);
        for (int what : new int[] {-1, 9, LEAST, MOST}) {
            checks.index("" + what, post, () -> post.sleigh(0, what));
        }
    }

    private void askSleighThatRests() {
        checks.sentence(11, "3 0 if it rests, 1 if it is under way, 2 if it is sunk");
        SleighPost post = threePosts();
        post.addSleigh(0, 2);
        post.addBag(0, 1, 30);
        post.load(0, 0);
        int[] rests = {2, 130, 0, 0, 0, 0, 0, 18, 1};
        int[] sent = {2, 130, 0, 1, 0, 1, 0, 18, 1};
        for (int what = 0; what < rests.length; what++) {
            checks.same("it rests, " + what, post.sleigh(0, what), rests[what]);
        }
        post.send(0, 1);
        for (int what = 0; what < sent.length; what++) {
            checks.same("it is sent, " + what, post.sleigh(0, what), sent[what]);
        }
    }

    private void askSleighBetweenTwo() {
        checks.sentence(11, "6 the hours until it is on its next cell, 0 if it is not between two");
        SleighPost post = threePosts();
        post.addSleigh(0, 6);
        post.setSnow(1, 0, 3);
        post.setSnow(0, 1, 9);
        post.send(0, 1);
        checks.same("ahead of the first hour", post.sleigh(0, 6), 0);
        for (int left = 3; left >= 1; left--) {
            post.pass(1);
            checks.same("hours", post.sleigh(0, 6), left);
            checks.same("the cell that it left", post.sleigh(0, 4), 0);
        }
        post.pass(1);
        checks.same("it is on the next cell", post.sleigh(0, 4), 1);
        checks.same("and sets out again in the same hour", post.sleigh(0, 6), 1);
        post.pass(2);
        checks.same("it rests", post.sleigh(0, 3), 0);
        checks.same("and is not between two", post.sleigh(0, 6), 0);
    }

    private void askSleighThatIsSunk() {
        checks.sentence(11, "4 its cell (of one that is sunk where it sank), "
                + "5 the post where it rests, or to which it goes, -1 if it is sunk");
        SleighPost post = Lakes.corridor(4, 30);
        post.addSleigh(0, 6);
        post.addBag(0, 1, 30);
        post.load(0, 0);
        post.setSnow(2, 5, 9);
        post.setCold(1, -9);
        post.pass(20);
        post.send(0, 1);
        post.pass(4);
        checks.same("between two", post.sleigh(0, 6), 7);
        post.pass(1);
        int[] due = {6, 220, 1, 2, 1 + 16 * 5, -1, 0, 26, 0};
        for (int what = 0; what < due.length; what++) {
            checks.same("a sunk one, " + what, post.sleigh(0, what), due[what]);
        }
        post.pass(200);
        checks.same("it is tired as it was", post.sleigh(0, 2), 1);
        checks.same("where it sank", post.sleigh(0, 4), 1 + 16 * 5);
    }

    private void askThickness() {
        checks.sentence(11, "7 the thickness that it needs on ice without a crack");
        SleighPost post = threePosts();
        post.addSleigh(0, 1);
        for (int i = 0; i < 4; i++) {
            post.addBag(0, 1, i == 3 ? 11 : 1);
        }
        checks.same("70 / 12", post.sleigh(0, 7), 13);
        post.load(0, 0);
        checks.same("71 / 12", post.sleigh(0, 7), 13);
        post.load(0, 1);
        checks.same("72 / 12", post.sleigh(0, 7), 14);
        post.load(0, 3);
        checks.same("83 / 12", post.sleigh(0, 7), 14);
        post.load(0, 2);
        checks.same("84 / 12", post.sleigh(0, 7), 15);
    }

    // ---- promise 12

    private void askBags() {
        checks.sentence(12, "a bag");
        SleighPost post = threePosts();
        checks.index("the bag 0 ahead of the first one", post, () -> post.bag(0, 0));
        for (int i = 0; i < 39; i++) {
            post.addBag(0, 1, 7);
        }
        checks.index("the 40th bag ahead of it", post, () -> post.bag(39, 0));
        post.addBag(0, 1, 8);
        checks.same("the first bag", post.bag(0, 0), 7);
        checks.same("the last bag", post.bag(39, 0), 8);
        checks.sentence(12, "if there is no such bag, or what is not 0 to 4");
        for (int bag : new int[] {-1, 40, LEAST, MOST}) {
            checks.index("bag " + bag, post, () -> post.bag(bag, 0));
        }
    }

    private void askBagQuestions() {
        checks.sentence(12, "or what is not 0 to 4");
        SleighPost post = threePosts();
        post.addBag(0, 1, 7);
        checks.same("0", post.bag(0, 0), 7);
        checks.same("4", post.bag(0, 4), -1);
        for (int what : new int[] {-1, 5, LEAST, MOST}) {
            checks.index("" + what, post, () -> post.bag(0, what));
        }
    }

    private void askBagThatWaits() {
        checks.sentence(12, "3 the post where it waits or has come, or the sleigh, -1 if it is lost");
        SleighPost post = threePosts();
        post.addSleigh(0, 6);
        post.addBag(0, 2, 7);
        checks.same("where it waits", post.bag(0, 3), 0);
        post.load(0, 0);
        post.send(0, 1);
        checks.same("none comes", post.pass(4), 0);
        int[] due = {7, 2, 0, 1, -1};
        for (int what = 0; what < due.length; what++) {
            checks.same("it waits at another post, " + what, post.bag(0, what), due[what]);
        }
        post.addSleigh(0, 6);
        checks.state("it waits there no more", post, () -> post.load(1, 0));
        checks.same("it waits here", post.load(0, 0), 227);
    }

    private void askBagOnSleigh() {
        checks.sentence(12, "1 if it is on a sleigh");
        SleighPost post = threePosts();
        post.addSleigh(0, 6);
        post.addSleigh(2, 6);
        post.addSleigh(1, 6);
        post.addBag(1, 0, 7);
        post.load(2, 0);
        int[] due = {7, 0, 1, 2, -1};
        for (int what = 0; what < due.length; what++) {
            checks.same("it is on the sleigh 2, " + what, post.bag(0, what), due[what]);
        }
        checks.same("of which it is told", post.sleigh(2, 8), 1);
        checks.same("of no other one", post.sleigh(0, 8), 0);
        checks.same("of no other one", post.sleigh(1, 8), 0);
    }

    private void askBagThatHasCome() {
        checks.sentence(12, "4 the hour in which it came, -1 if not");
        SleighPost post = threePosts();
        post.pass(7);
        post.addSleigh(0, 6);
        post.addBag(0, 1, 7);
        post.load(0, 0);
        post.send(0, 1);
        checks.same("3 hours after the hour 7", post.arrives(0), 10);
        checks.same("none comes up to the hour 9", post.pass(3), 0);
        checks.same("the hour is 10", post.count(0), 10);
        checks.same("it has not come", post.bag(0, 4), -1);
        checks.same("it comes in the hour 10", post.pass(1), 1);
        int[] due = {7, 1, 2, 1, 10};
        for (int what = 0; what < due.length; what++) {
            checks.same("it has come, " + what, post.bag(0, what), due[what]);
        }
        post.pass(50);
        checks.same("in this hour for all time", post.bag(0, 4), 10);
    }

    private void askBagThatIsLost() {
        checks.sentence(12, "3 if it is lost");
        SleighPost post = Lakes.corridor(4, 30);
        post.addSleigh(0, 6);
        post.addBag(0, 1, 7);
        post.addBag(0, 1, 8);
        post.addBag(0, 1, 9);
        post.load(0, 0);
        post.load(0, 2);
        post.send(0, 1);
        post.pass(1);
        post.setIce(1, 5, 1, 1, 0);
        post.pass(2);
        int[] lost = {9, 1, 3, -1, -1};
        int[] waits = {8, 1, 0, 0, -1};
        for (int what = 0; what < lost.length; what++) {
            checks.same("a lost one, " + what, post.bag(2, what), lost[what]);
            checks.same("one that was not loaded, " + what, post.bag(1, what), waits[what]);
        }
        checks.same("lost bags", post.count(6), 2);
    }
}
