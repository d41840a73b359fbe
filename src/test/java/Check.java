/** Counts the answers of one test that are as due and prints the others. */
final class Check {
  private final String test;
  private String sentence = "";
  private int passed;
  private int failed;

  Check(String test) {
    this.test = test;
  }

  /** The sentence of the document that the answers from here on are about. */
  void about(String quoted) {
    sentence = " \"" + quoted + "\":";
  }

  void same(String what, long got, long due) {
    if (got == due) {
      passed++;
    } else {
      failed++;
      System.out.println(test + ":" + sentence + " " + what + " answered " + got
          + ", due is " + due);
    }
  }

  void holds(String what, boolean got) {
    same(what, got ? 1 : 0, 1);
  }

  void fails(String what, Class<? extends RuntimeException> due, Runnable call) {
    String got = "nothing";
    try {
      call.run();
    } catch (RuntimeException e) {
      got = e.getClass().getName();
    }
    if (!got.equals(due.getName())) {
      System.out.println(test + ": " + what + " threw " + got + ", due is " + due.getName());
    }
    same(what + " throws", got.equals(due.getName()) ? 1 : 0, 1);
  }

  /** Both hold the same bytes. */
  void sameStream(String what, ValueStream got, ValueStream due) {
    same(what + ": size()", got.size(), due.size());
    for (int i = 0; i < due.size(); i++) {
      same(what + ": at(" + i + ")", got.at(i), due.at(i));
    }
  }

  /** The stream is malformed at a place, and reading it makes no node. */
  void malformed(String what, ValueStream x, int place) {
    int nodes = x.nodes();
    same(what + ": read()", x.read(), -2 - place);
    same(what + ": nodes()", x.nodes(), nodes);
  }

  void end() {
    System.out.println(test + ": " + passed + " passed, " + failed + " failed");
    if (failed > 0 || passed == 0) {
      System.exit(1);
    }
  }
}
