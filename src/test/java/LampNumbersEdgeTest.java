import java.util.LinkedHashMap;
import java.util.Map;

/**
 * "At most 8, numbered from 0" and "if there is no such lamp": each call that takes a lamp, with each number of lamps
 * from none to 8, at the first and the last lamp and on their outer sides.
 */
public final class LampNumbersEdgeTest {
  private static final Check check = new Check();
  private static final Class<?> INDEX = IndexOutOfBoundsException.class;

  public static void main(String[] args) {
    numbersFromNone();
    for (int lamps = 0; lamps <= 8; lamps++) {
      eachCall(lamps);
      callsOfTwo(lamps);
      lampIsNamedFirst(lamps);
    }
    check.end();
  }

  private static void numbersFromNone() {
    PulseLoom loom = new PulseLoom();
    for (int number = 0; number < 8; number++) {
      check.same("2: lamps() ahead of lamp " + number, loom.lamps(), number);
      check.same("2: the number of lamp " + number, loom.addLamp(0, 2, 1, 1), number);
    }
    check.same("9: lamps() of eight", loom.lamps(), 8);
  }

  private static Map<String, Check.NumberCall> callsOfOne() {
    Map<String, Check.NumberCall> calls = new LinkedHashMap<>();
    calls.put("3: setShift", (loom, lamp) -> loom.setShift(lamp, 0));
    calls.put("4: setLength", (loom, lamp) -> loom.setLength(lamp, 1));
    calls.put("12: phaseOf", PulseLoom::phaseOf);
    calls.put("13: isDue", PulseLoom::isDue);
    calls.put("14: shines", PulseLoom::shines);
    calls.put("15: colourOf", PulseLoom::colourOf);
    calls.put("16: shiftOf", PulseLoom::shiftOf);
    calls.put("17: shone", PulseLoom::shone);
    calls.put("18: stayedDark", PulseLoom::stayedDark);
    calls.put("22: divisor, both", (loom, lamp) -> loom.divisor(lamp, lamp));
    calls.put("23: meet, both", (loom, lamp) -> loom.meet(lamp, lamp));
    calls.put("24: beatsUntilMeet, both", (loom, lamp) -> loom.beatsUntilMeet(lamp, lamp));
    calls.put("25: meets", PulseLoom::meets);
    calls.put("27: bestShift", PulseLoom::bestShift);
    calls.put("28: dueIn", (loom, lamp) -> loom.dueIn(lamp, 1));
    return calls;
  }

  private static int[] wrongNumbers(int lamps) {
    return new int[] {-1, lamps, lamps + 1, Integer.MIN_VALUE, Integer.MAX_VALUE};
  }

  private static void eachCall(int lamps) {
    callsOfOne().forEach((name, call) -> {
      for (int wrong : wrongNumbers(lamps)) {
        check.refused(name + ", lamp " + wrong + " of " + lamps, INDEX, () -> Looms.busy(lamps),
            loom -> call.on(loom, wrong));
      }
      if (lamps > 0) {
        call.on(Looms.busy(lamps), 0);
        call.on(Looms.busy(lamps), lamps - 1);
      }
    });
  }

  /** A call of two lamps; the answer does not matter. */
  private interface PairCall {
    void on(PulseLoom loom, int one, int other);
  }

  private static void callsOfTwo(int lamps) {
    pair("5: swapColours", lamps, PulseLoom::swapColours);
    pair("22: divisor", lamps, PulseLoom::divisor);
    pair("23: meet", lamps, PulseLoom::meet);
    pair("24: beatsUntilMeet", lamps, PulseLoom::beatsUntilMeet);
  }

  private static void pair(String name, int lamps, PairCall call) {
    int last = Math.max(0, lamps - 1);
    for (int wrong : wrongNumbers(lamps)) {
      String what = name + " of " + lamps + " lamps, " + wrong;
      check.refused(what + " and 0", INDEX, () -> Looms.busy(lamps), loom -> call.on(loom, wrong, 0));
      check.refused(what + " and the last", INDEX, () -> Looms.busy(lamps), loom -> call.on(loom, wrong, last));
      check.refused("0 and " + what, INDEX, () -> Looms.busy(lamps), loom -> call.on(loom, 0, wrong));
      check.refused("the last and " + what, INDEX, () -> Looms.busy(lamps), loom -> call.on(loom, last, wrong));
      check.refused(what + " and -2", INDEX, () -> Looms.busy(lamps), loom -> call.on(loom, wrong, -2));
    }
    if (lamps > 1) {
      call.on(Looms.busy(lamps), 0, last);
      call.on(Looms.busy(lamps), last, 0);
    }
  }

  /** "If several exceptions apply, the one that is named first is thrown": the missing lamp, ahead of the rest. */
  private static void lampIsNamedFirst(int lamps) {
    for (int wrong : wrongNumbers(lamps)) {
      String what = ", lamp " + wrong + " of " + lamps + " and another fault";
      check.refused("3: setShift -1" + what, INDEX, () -> Looms.busy(lamps), loom -> loom.setShift(wrong, -1));
      check.refused("3: setShift 20" + what, INDEX, () -> Looms.busy(lamps), loom -> loom.setShift(wrong, 20));
      check.refused("4: setLength 0" + what, INDEX, () -> Looms.busy(lamps), loom -> loom.setLength(wrong, 0));
      check.refused("4: setLength 20" + what, INDEX, () -> Looms.busy(lamps), loom -> loom.setLength(wrong, 20));
      check.refused("5: swapColours, same" + what, INDEX, () -> Looms.busy(lamps),
          loom -> loom.swapColours(wrong, wrong));
      check.refused("28: dueIn 0" + what, INDEX, () -> Looms.busy(lamps), loom -> loom.dueIn(wrong, 0));
      check.refused("28: dueIn 100001" + what, INDEX, () -> Looms.busy(lamps), loom -> loom.dueIn(wrong, 100001));
    }
  }
}
