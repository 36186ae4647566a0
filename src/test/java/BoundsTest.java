/**
 * One test for each sentence of the document that names a bound; a failure names the sentence and its promise.
 * With a document's path it prints the document's rows of which no sentence is tested here.
 */
public final class BoundsTest {
    public static void main(String[] args) throws Exception {
        Checks checks = new Checks();
        new IceBounds(checks).run();
        new MailBounds(checks).run();
        new HourBounds(checks).run();
        new AheadBounds(checks).run();
        new DigestBounds(checks).run();
        if (args.length > 0) {
            checks.printWhatIsNotQuoted(args[0]);
        }
        checks.end();
    }
}
