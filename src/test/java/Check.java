/** What the tests share: counts and prints answers that are not the ones due. */
final class Check {
  /** A call on a loom whose answer does not matter. */
  interface Call {
    void on(PulseLoom loom);
  }

  /** A call with a number on a loom whose answer does not matter. */
  interface NumberCall {
    void on(PulseLoom loom, int number);
  }

  /** Makes a loom in a certain state. */
  interface Maker {
    PulseLoom make();
  }

  private int wrong = 0;

  void same(String what, long got, long due) {
    if (got != due) {
      fault(what + " answered " + got + ", due is " + due);
    }
  }

  void same(String what, boolean got, boolean due) {
    if (got != due) {
      fault(what + " answered " + got + ", due is " + due);
    }
  }

  void sameDouble(String what, double got, double due) {
    if (got != due) {
      fault(what + " answered " + got + ", due is " + due);
    }
  }

  void sameText(String what, String got, String due) {
    if (!got.equals(due)) {
      fault(what + " is:\n  " + got + "\ndue is:\n  " + due);
    }
  }

  /** A call must throw exactly this exception, and must change nothing. */
  void refused(String what, Class<?> kind, Maker maker, Call call) {
    PulseLoom loom = maker.make();
    Class<?> thrown = null;
    try {
      call.on(loom);
    } catch (RuntimeException e) {
      thrown = e.getClass();
      // A list's own refusal looks the same to the caller, but the program must look at the index itself.
      sameText(what + ": thrown by", e.getStackTrace()[0].getClassName(), "PulseLoom");
    }
    if (thrown != kind) {
      fault(what + " threw " + thrown + ", due is " + kind);
    }
    sameText(what + ": the state behind it", state(loom), state(maker.make()));
  }

  /** A number outside a range must be refused as a wrong argument, just outside and as far outside as an int goes. */
  void refusedOutside(String what, int least, int most, Maker maker, NumberCall call) {
    for (int number : new int[] {least - 1, most + 1, Integer.MIN_VALUE, Integer.MAX_VALUE}) {
      refused(what + " " + number, IllegalArgumentException.class, maker, loom -> call.on(loom, number));
    }
  }

  /** A call must throw nothing, and must change nothing. */
  void unchanged(String what, Maker maker, Call call) {
    PulseLoom loom = maker.make();
    call.on(loom);
    sameText(what + ": the state behind it", state(loom), state(maker.make()));
  }

  /** All that can be asked of a loom now, and how it goes on. It lets beats pass. */
  static String state(PulseLoom loom) {
    StringBuilder text = new StringBuilder();
    text.append(loom.digest()).append(' ').append(loom.limitWanted(200)).append(' ').append(loom.meanShone());
    for (int lamp = 0; lamp < loom.lamps(); lamp++) {
      text.append(" | ").append(loom.shiftOf(lamp)).append(' ').append(loom.dueIn(lamp, 100000));
      text.append(' ').append(loom.divisor(lamp, lamp));
    }
    text.append(" | ").append(loom.pass(200)).append(' ').append(loom.digest());
    return text.toString();
  }

  private void fault(String text) {
    wrong++;
    System.out.println(text);
  }

  void end() {
    if (wrong > 0) {
      System.out.println(wrong + " faults");
      System.exit(1);
    }
  }
}
