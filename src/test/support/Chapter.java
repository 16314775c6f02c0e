/** Tests, each of which is of one sentence of the document and names it. */
class Chapter extends Hand {
    private static Document document = null;
    private static String heading = "";
    static int sentences = 0;

    static void of(Document read) {
        document = read;
    }

    static void terms() {
        heading = "Terms";
    }

    static void promise(int number) {
        heading = "Promise " + number;
    }

    static void whatItIs() {
        heading = "What it is";
    }

    /** The sentence has to stand in the document, and its test has to look at something. */
    static void says(String sentence, Runnable test) {
        promise = heading + ", \"" + sentence + "\"";
        due("how often it stands in the document, once", document.name(heading, sentence) ? 1 : 0, 1);
        sentences++;
        int before = looks;
        test.run();
        if (looks == before) {
            due("looks that its test takes, some", 0, 1);
        }
    }
}
