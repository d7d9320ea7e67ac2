/** Compares answers with those that are due and counts the ones that differ. */
final class Check {
  private static final int MOST_LINES = 40;
  private int wrong = 0;
  private int seen = 0;
  private String sentence = "";

  /** The document's sentence that the next answers are about; it is told with each that is wrong. */
  void says(String newSentence) {
    sentence = newSentence + ": ";
  }

  void due(String call, long got, long want) {
    seen++;
    if (got != want) {
      say(call + " answered " + got + ", due is " + want);
    }
  }

  void holds(String what, boolean holds) {
    seen++;
    if (!holds) {
      say("not so: " + what);
    }
  }

  private void say(String text) {
    wrong++;
    if (wrong <= MOST_LINES) {
      System.out.println(sentence + text);
    }
  }

  void end(String name) {
    System.out.println(name + ": " + seen + " answers looked at, " + wrong + " wrong");
    if (wrong != 0 || seen == 0) {
      System.exit(1);
    }
  }
}
