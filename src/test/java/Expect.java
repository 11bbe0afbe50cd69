/** Counts answers that are not the ones that are due, sentence by sentence of the document. */
final class Expect {
    private String sentence = "";
    private int sentences;
    private int asked;
    private int askedBefore;
    private int wrong;

    /**
     * Whatever is asked from here on, up to the next sentence, is asked to see that this one holds. The words are the
     * document's (or those of LANGUAGE.md, if it is named), but for what stands in [ ]; (..) stands for words left out.
     */
    void sentence(String words) {
        closeSentence();
        sentence = words;
        sentences++;
    }

    private void closeSentence() {
        if (sentences > 0 && asked == askedBefore) {
            wrong++;
            System.out.println("nothing is asked of: " + sentence);
        }
        askedBefore = asked;
    }

    void same(String what, long got, long want) {
        asked++;
        if (got != want) {
            wrong++;
            if (wrong <= 20) {
                System.out.println(sentence + " | " + what + " answered " + got + ", due is " + want);
            }
        }
    }

    void yes(String what, boolean got) {
        same(what, got ? 1 : 0, 1);
    }

    void no(String what, boolean got) {
        same(what, got ? 1 : 0, 0);
    }

    /** The bytes of a disk are still those that were kept before. */
    void unchanged(String what, Bench bench, int[] before) {
        for (int p = 0; p < 4096; p++) {
            same(what + ": peek(" + p + ")", bench.desk.peek(p), before[p]);
        }
    }

    boolean isClean() {
        return wrong == 0;
    }

    void end() {
        closeSentence();
        String of = sentences > 0 ? " to " + sentences + " sentences" : "";
        System.out.println(wrong == 0 ? asked + " answers" + of + " are as due" : wrong + " answers are not as due");
        if (wrong != 0) {
            System.exit(1);
        }
    }
}
