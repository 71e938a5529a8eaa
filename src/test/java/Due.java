import java.util.List;

/** Counts the answers that are not the ones that are due, and ends the test by them. */
final class Due {
    private int asked = 0;
    private int wrong = 0;
    private String sentence = "";
    private int askedBefore = 0;

    /** The answers from here on are about these words of the document, at this place in it. */
    void sentence(String place, String words) {
        endSentence();
        sentence = place + ", \"" + words + "\": ";
        askedBefore = asked;
    }

    void is(String what, long got, long want) {
        asked++;
        if (got != want) {
            wrong(what + " answered " + got + ", due is " + want);
        }
    }

    void yes(String what, boolean got) {
        is(what, got ? 1 : 0, 1);
    }

    void no(String what, boolean got) {
        is(what, got ? 1 : 0, 0);
    }

    void same(String what, List<String> got, List<String> want) {
        asked++;
        if (got.equals(want)) {
            return;
        }
        for (int k = 0; k < Math.min(got.size(), want.size()); k++) {
            if (!got.get(k).equals(want.get(k))) {
                wrong(what + ": there is \"" + got.get(k) + "\", due is \"" + want.get(k) + "\"");
                return;
            }
        }
        wrong(what + ": there are " + got.size() + " lines, due are " + want.size());
    }

    void end() {
        endSentence();
        System.out.println(wrong == 0 ? asked + " answers are as due" : wrong + " of " + asked + " answers are not as due");
        if (wrong != 0 || asked == 0) {
            System.exit(1);
        }
    }

    // A sentence whose test asks nothing, say by a loop over no numbers, is not tested.
    private void endSentence() {
        if (!sentence.isEmpty() && asked == askedBefore) {
            wrong("nothing was asked");
        }
    }

    private void wrong(String what) {
        wrong++;
        System.out.println(sentence + what);
    }
}
