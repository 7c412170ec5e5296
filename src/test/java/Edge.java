/** Each test of an edge begins with the promise and the sentence of the document that it holds the class against. */
final class Edge {
    private static final Document DOCUMENT = new Document();

    private static int before = 0;
    private static int tests = 0;

    private Edge() {
    }

    /** The words are those of one sentence below this heading, or the part of it that tells the edge. */
    static void of(String heading, String words) {
        dueSomeChecks();
        Check.about(heading + ", \"" + words + "\"");
        if (!DOCUMENT.name(heading, words)) {
            Check.fail("the document has no such sentence there");
        }
        before = Check.count();
        tests++;
    }

    /** A test that checks nothing would hold whatever the class did. */
    private static void dueSomeChecks() {
        if (tests > 0 && Check.count() == before) {
            Check.fail("nothing was checked");
        }
    }

    /** No sentence of the terms and of the promises is left without a test. */
    static void end() {
        dueSomeChecks();
        Check.about("the document");
        for (String sentence : DOCUMENT.leftOver()) {
            Check.fail("no test names " + sentence);
        }
        System.out.println(tests + " tests of edges, " + Check.count() + " answers");
        Check.end();
    }
}
