/** Compares answers with those that are due, prints each that differs, and ends the test. */
final class Answers {
    private int wrong = 0;
    private int asked = 0;
    private int sentences = 0;
    private int askedBefore = 0;
    private String sentence = "";

    /** From here on the answers are about this sentence of the document. */
    void about(String text) {
        closeSentence();
        sentence = text;
        sentences++;
        askedBefore = asked;
    }

    void due(String call, long got, long want) {
        asked++;
        if (got != want) {
            tellWrong(call + " answered " + got + ", due is " + want);
        }
    }

    void due(String call, boolean got, boolean want) {
        asked++;
        if (got != want) {
            tellWrong(call + " answered " + got + ", due is " + want);
        }
    }

    private void tellWrong(String text) {
        wrong++;
        System.out.println(sentence.isEmpty() ? text : "[" + sentence + "] " + text);
    }

    /** A sentence about which nothing was asked has no test: that is a fault of the test. */
    private void closeSentence() {
        if (!sentence.isEmpty() && asked == askedBefore) {
            tellWrong("nothing was asked");
        }
    }

    /**
     * All that can be seen of the first n nodes, to see that a refusal changes nothing. (With four
     * nodes that is some 170 calls: two pictures stay within the calls that an object is good for.)
     */
    static String picture(SliceVoting s, int n) {
        StringBuilder text = new StringBuilder();
        for (int v = 0; v < n; v++) {
            text.append(s.voted(v)).append(' ').append(s.accepted(v)).append(' ');
            text.append(s.confirmed(v)).append(' ').append(s.counter(v)).append(' ');
            text.append(s.value(v)).append(' ').append(s.decided(v)).append(' ');
            for (int w = 0; w < n; w++) {
                text.append(s.known(v, w, false)).append(' ').append(s.known(v, w, true));
                text.append(s.intertwined(v, w) ? " y " : " n ");
            }
        }
        for (int set = 0; set < 1 << n; set++) {
            text.append(s.quorum(set) ? 'q' : '-').append(s.largest(set)).append(' ');
            for (int v = 0; v < n; v++) {
                text.append(s.blocks(set, v) ? 'b' : '-');
            }
        }
        return text.toString();
    }

    void same(String what, SliceVoting s, int n, String picture) {
        due(what + " changes nothing", picture(s, n).equals(picture), true);
    }

    void end() {
        closeSentence();
        String about = sentences == 0 ? "" : sentences + " sentences, ";
        System.out.println(about + asked + " answers, " + wrong + " not as due");
        if (wrong != 0 || asked == 0) {
            System.exit(1);
        }
    }
}
