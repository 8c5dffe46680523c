/** For each promise of the document: ordinary inputs, and the greatest and the smallest that are allowed. */
public final class PromiseTest {
  private static final Check check = new Check();

  public static void main(String[] args) {
    newObject();
    addLamp();
    setShift();
    setLength();
    swapColours();
    setLimit();
    pass();
    passCountsEachBeatOnce();
    beat();
    lamps();
    limit();
    power();
    phaseOf();
    isDue();
    shines();
    colourOf();
    shiftOf();
    shone();
    stayedDark();
    seen();
    unfairness();
    together();
    divisor();
    meet();
    beatsUntilMeet();
    meets();
    apart();
    bestShift();
    dueIn();
    brightest();
    unfairnessIn();
    limitWanted();
    meanShone();
    digest();
    lateBeats();
    asksChangeNothing();
    check.end();
  }

  /** Three lamps of the powers 9, 8 and 4: all are due in beat 0, and the limit 20 leaves the last one dark. */
  private static PulseLoom crowded() {
    PulseLoom loom = new PulseLoom();
    loom.addLamp(0, 4, 2, 9);
    loom.addLamp(1, 6, 3, 8);
    loom.addLamp(2, 3, 1, 4);
    return loom;
  }

  private static void newObject() {
    PulseLoom loom = new PulseLoom();
    check.same("1: lamps()", loom.lamps(), 0);
    check.same("1: beat()", loom.beat(), 0);
    check.same("1: limit()", loom.limit(), 20);
    check.same("1: power()", loom.power(), 0);
    check.same("1: pass(3) without lamps", loom.pass(3), 0);
    check.same("1: another loom's beat()", new PulseLoom().beat(), 0);
  }

  private static void addLamp() {
    PulseLoom loom = new PulseLoom();
    check.same("2: the least", loom.addLamp(0, 2, 1, 1), 0);
    check.same("2: the greatest", loom.addLamp(5, 20, 19, 9), 1);
    check.same("2: colour 0", loom.colourOf(0), 0);
    check.same("2: colour 5", loom.colourOf(1), 5);
    check.same("2: period 2", loom.divisor(0, 0), 2);
    check.same("2: period 20", loom.divisor(1, 1), 20);
    check.same("2: length 1", loom.dueIn(0, 20), 10);
    check.same("2: length 19", loom.dueIn(1, 20), 19);
    check.same("2: power 1 and 9", loom.power(), 10);
    check.same("2: shift at first", loom.shiftOf(1), 0);
    check.same("2: shone at first", loom.shone(1), 0);
    check.same("2: stayedDark at first", loom.stayedDark(1), 0);
    for (int number = 2; number < 8; number++) {
      check.same("2: the next", loom.addLamp(3, 7, 2, 1), number);
    }
    check.same("2: lamps()", loom.lamps(), 8);
    loom = new PulseLoom();
    loom.pass(3);
    loom.addLamp(0, 5, 2, 1);
    check.same("2: the phase of a lamp added late", loom.phaseOf(0), 3);
  }

  private static void setShift() {
    PulseLoom loom = Looms.withPeriods(2, 20);
    check.same("3: before", loom.setShift(1, 19), 0);
    check.same("3: now", loom.shiftOf(1), 19);
    check.same("3: the other", loom.shiftOf(0), 0);
    check.same("3: phase", loom.phaseOf(1), 19);
    check.same("3: before, 19", loom.setShift(1, 0), 19);
    check.same("3: greatest of period 2", loom.setShift(0, 1), 0);
    check.same("3: before, 1", loom.setShift(0, 0), 1);
    check.same("3: the same again", loom.setShift(0, 0), 0);
    loom.setShift(1, 4);
    loom.pass(7);
    check.same("3: phase later", loom.phaseOf(1), 11);
    check.same("3: counts stay", loom.shone(0), 4);
  }

  private static void setLength() {
    PulseLoom loom = Looms.withPeriods(5, 20);
    check.same("4: before", loom.setLength(0, 4), 1);
    check.same("4: before, 4", loom.setLength(0, 3), 4);
    check.same("4: due", loom.dueIn(0, 5), 3);
    check.same("4: the other", loom.dueIn(1, 20), 1);
    check.same("4: greatest", loom.setLength(1, 19), 1);
    check.same("4: before, 19", loom.setLength(1, 1), 19);
    check.same("4: before, 1", loom.setLength(1, 2), 1);
    check.same("4: lights up at phase 0 all the same", loom.beatsUntilMeet(0, 1), 0);
  }

  private static void swapColours() {
    PulseLoom loom = crowded();
    check.same("5: differ", loom.swapColours(0, 2), true);
    check.same("5: one", loom.colourOf(0), 2);
    check.same("5: other", loom.colourOf(2), 0);
    check.same("5: third", loom.colourOf(1), 1);
    check.same("5: back", loom.swapColours(2, 0), true);
    check.same("5: one, back", loom.colourOf(0), 0);
    loom = Looms.withPeriods(3, 4);
    check.same("5: the same colour", loom.swapColours(0, 1), false);
    check.same("5: stays", loom.colourOf(0), 0);
  }

  private static void setLimit() {
    PulseLoom loom = crowded();
    check.same("6: before", loom.setLimit(99), 20);
    check.same("6: all shine", loom.power(), 21);
    check.same("6: before, 99", loom.setLimit(0), 99);
    check.same("6: none shines", loom.power(), 0);
    check.same("6: before, 0", loom.setLimit(21), 0);
    check.same("6: just enough", loom.power(), 21);
    check.same("6: limit()", loom.limit(), 21);
  }

  private static void pass() {
    PulseLoom loom = crowded();
    check.same("7: one dark", loom.pass(1), 1);
    check.same("7: beat 1", loom.beat(), 1);
    check.same("7: none dark", loom.pass(11), 0);
    check.same("7: beat 12", loom.beat(), 12);
    check.same("7: 200 beats", loom.pass(200), 17);
    check.same("7: beat 212", loom.beat(), 212);
    check.same("7: shone(0)", loom.shone(0), 106);
    loom = new PulseLoom();
    check.same("7: without lamps", loom.pass(200), 0);
    check.same("7: beats without lamps", loom.beat(), 200);
  }

  private static void passCountsEachBeatOnce() {
    PulseLoom loom = new PulseLoom();
    loom.addLamp(0, 3, 2, 5);
    loom.addLamp(1, 3, 2, 5);
    loom.setLimit(4);
    check.same("7: two dark in one beat", loom.pass(3), 2);
    check.same("7: dark of one", loom.stayedDark(0), 2);
    check.same("7: dark of the other", loom.stayedDark(1), 2);
    check.same("7: shone of neither", loom.shone(0) + loom.shone(1), 0);
  }

  private static void beat() {
    PulseLoom loom = Looms.withPeriods(3);
    check.same("8: at first", loom.beat(), 0);
    loom.pass(1);
    check.same("8: one later", loom.beat(), 1);
    loom.pass(200);
    check.same("8: 200 later", loom.beat(), 201);
    loom.brightest(200);
    check.same("8: unmoved by what would be", loom.beat(), 201);
  }

  private static void lamps() {
    PulseLoom loom = new PulseLoom();
    for (int count = 0; count < 8; count++) {
      check.same("9: lamps()", loom.lamps(), count);
      loom.addLamp(count % 6, 2 + count, 1, 1);
    }
    check.same("9: eight", loom.lamps(), 8);
  }

  private static void limit() {
    PulseLoom loom = new PulseLoom();
    check.same("10: at first", loom.limit(), 20);
    loom.setLimit(0);
    check.same("10: 0", loom.limit(), 0);
    loom.setLimit(99);
    check.same("10: 99", loom.limit(), 99);
  }

  private static void power() {
    PulseLoom loom = crowded();
    check.same("11: 9 and 8", loom.power(), 17);
    loom.setLimit(12);
    check.same("11: 9, not 8; 4 would be 13", loom.power(), 9);
    loom.setLimit(13);
    check.same("11: 9 and 4, past the one that stays dark", loom.power(), 13);
    loom.setLimit(8);
    check.same("11: 8 alone", loom.power(), 8);
    loom.setLimit(20);
    loom.pass(2);
    check.same("11: beat 2", loom.power(), 8);
    loom.pass(3);
    check.same("11: beat 5", loom.power(), 9);
  }

  private static void phaseOf() {
    PulseLoom loom = Looms.withPeriods(4, 7);
    loom.setShift(1, 6);
    check.same("12: 0", loom.phaseOf(0), 0);
    check.same("12: shift", loom.phaseOf(1), 6);
    loom.pass(1);
    check.same("12: 1", loom.phaseOf(0), 1);
    check.same("12: around", loom.phaseOf(1), 0);
    loom.pass(3);
    check.same("12: around, 4", loom.phaseOf(0), 0);
    check.same("12: 3", loom.phaseOf(1), 3);
  }

  private static void isDue() {
    PulseLoom loom = new PulseLoom();
    loom.addLamp(0, 4, 2, 9);
    loom.setLimit(0);
    boolean[] due = {true, true, false, false, true};
    for (int i = 0; i < due.length; i++) {
      check.same("13: beat " + i, loom.isDue(0), due[i]);
      loom.pass(1);
    }
  }

  private static void shines() {
    PulseLoom loom = crowded();
    check.same("14: first", loom.shines(0), true);
    check.same("14: second", loom.shines(1), true);
    check.same("14: third is too much", loom.shines(2), false);
    loom.setLimit(13);
    check.same("14: second is too much", loom.shines(1), false);
    check.same("14: third is looked at all the same", loom.shines(2), true);
    loom.setLimit(9);
    check.same("14: first, just enough", loom.shines(0), true);
    loom.setLimit(8);
    check.same("14: first, too much", loom.shines(0), false);
    loom.setLimit(99);
    loom.pass(1);
    check.same("14: not due", loom.shines(2), false);
  }

  private static void colourOf() {
    PulseLoom loom = new PulseLoom();
    for (int colour = 0; colour < 6; colour++) {
      loom.addLamp(colour, 5, 2, 3);
      check.same("15: colour", loom.colourOf(colour), colour);
    }
  }

  private static void shiftOf() {
    PulseLoom loom = Looms.withPeriods(9, 9);
    check.same("16: at first", loom.shiftOf(0), 0);
    loom.setShift(0, 8);
    loom.pass(5);
    check.same("16: set", loom.shiftOf(0), 8);
    check.same("16: the other", loom.shiftOf(1), 0);
  }

  private static void shone() {
    PulseLoom loom = crowded();
    loom.pass(12);
    check.same("17: 0", loom.shone(0), 6);
    check.same("17: 1", loom.shone(1), 6);
    check.same("17: dark is not counted", loom.shone(2), 3);
    loom.setLimit(0);
    loom.pass(12);
    check.same("17: none more", loom.shone(0), 6);
  }

  private static void stayedDark() {
    PulseLoom loom = crowded();
    loom.pass(12);
    check.same("18: 0", loom.stayedDark(0), 0);
    check.same("18: 2", loom.stayedDark(2), 1);
    loom.setLimit(0);
    loom.pass(12);
    check.same("18: due beats alone", loom.stayedDark(0), 6);
    check.same("18: 2 later", loom.stayedDark(2), 5);
  }

  private static void seen() {
    PulseLoom loom = new PulseLoom();
    loom.addLamp(0, 4, 3, 1);
    loom.addLamp(0, 4, 2, 1);
    loom.addLamp(5, 4, 1, 1);
    loom.pass(4);
    check.same("19: two lamps", loom.seen(0), 5);
    check.same("19: one lamp", loom.seen(5), 1);
    check.same("19: no lamp", loom.seen(3), 0);
    loom.swapColours(0, 2);
    check.same("19: what they have now", loom.seen(0), 3);
    check.same("19: what they have now, 5", loom.seen(5), 3);
  }

  private static void unfairness() {
    PulseLoom loom = new PulseLoom();
    check.same("20: without lamps", loom.unfairness(), 0);
    loom.addLamp(2, 4, 3, 1);
    loom.pass(4);
    check.same("20: one colour", loom.unfairness(), 0);
    loom.addLamp(4, 4, 1, 1);
    check.same("20: a colour not seen yet", loom.unfairness(), 3);
    loom.pass(4);
    check.same("20: 6 less 1", loom.unfairness(), 5);
    loom.addLamp(4, 2, 1, 1);
    loom.pass(20);
    check.same("20: 21 less 6 and 10", loom.unfairness(), 5);
    loom.setLimit(0);
    loom.pass(9);
    check.same("20: nothing shone", loom.unfairness(), 5);
    loom.swapColours(0, 1);
    check.same("20: 21 and 10 less 6", loom.unfairness(), 25);
    loom = new PulseLoom();
    loom.addLamp(0, 4, 3, 9);
    loom.addLamp(1, 4, 2, 1);
    loom.addLamp(2, 4, 3, 1);
    loom.setLimit(2);
    loom.pass(4);
    check.same("20: 3 less 0, the first least of all", loom.unfairness(), 3);
  }

  private static void together() {
    check.same("21: without lamps", Looms.withPeriods().together(), 1);
    check.same("21: 2", Looms.withPeriods(2).together(), 2);
    check.same("21: 20", Looms.withPeriods(20).together(), 20);
    check.same("21: 4 and 6", Looms.withPeriods(4, 6).together(), 12);
    check.same("21: 6, 10 and 15", Looms.withPeriods(6, 10, 15).together(), 30);
    check.same("21: the same twice", Looms.withPeriods(9, 9).together(), 9);
    check.same("21: the greatest", Looms.withPeriods(16, 9, 5, 7, 11, 13, 17, 19).together(), 232792560L);
  }

  private static void divisor() {
    PulseLoom loom = Looms.withPeriods(12, 18, 7, 6, 20, 2);
    check.same("22: 12 and 18", loom.divisor(0, 1), 6);
    check.same("22: 18 and 12", loom.divisor(1, 0), 6);
    check.same("22: 12 and 7", loom.divisor(0, 2), 1);
    check.same("22: 12 and 6", loom.divisor(0, 3), 6);
    check.same("22: itself", loom.divisor(4, 4), 20);
    check.same("22: 20 and 2", loom.divisor(4, 5), 2);
  }

  private static void meet() {
    PulseLoom loom = Looms.withPeriods(4, 6, 7);
    check.same("23: all begin at once", loom.meet(0, 1), true);
    loom.setShift(0, 1);
    check.same("23: never", loom.meet(0, 1), false);
    check.same("23: never, other way", loom.meet(1, 0), false);
    check.same("23: coprime", loom.meet(0, 2), true);
    check.same("23: itself", loom.meet(0, 0), true);
    loom.setShift(1, 5);
    check.same("23: 1 and 5", loom.meet(0, 1), true);
    loom.setShift(1, 4);
    check.same("23: 1 and 4", loom.meet(1, 0), false);
    loom.setLimit(0);
    check.same("23: shining or not", loom.meet(0, 2), true);
  }

  private static void beatsUntilMeet() {
    PulseLoom loom = Looms.withPeriods(4, 6, 20, 19);
    check.same("24: now", loom.beatsUntilMeet(0, 1), 0);
    loom.pass(1);
    check.same("24: 11 later", loom.beatsUntilMeet(0, 1), 11);
    check.same("24: other way", loom.beatsUntilMeet(1, 0), 11);
    check.same("24: 379 later", loom.beatsUntilMeet(2, 3), 379);
    check.same("24: 379 later, other way", loom.beatsUntilMeet(3, 2), 379);
    check.same("24: itself, later", loom.beatsUntilMeet(0, 0), 3);
    loom.pass(3);
    check.same("24: itself, now", loom.beatsUntilMeet(0, 0), 0);
    loom.setShift(0, 1);
    check.same("24: never", loom.beatsUntilMeet(0, 1), -1);
    check.same("24: never, other way", loom.beatsUntilMeet(1, 0), -1);
    loom.setLimit(0);
    check.same("24: shining or not", loom.beatsUntilMeet(1, 2), 56);
  }

  private static void meets() {
    PulseLoom loom = Looms.withPeriods(4, 6, 8);
    check.same("25: both others", loom.meets(0), 2);
    loom.setShift(0, 1);
    check.same("25: none", loom.meets(0), 0);
    check.same("25: one", loom.meets(1), 1);
    check.same("25: alone", Looms.withPeriods(5).meets(0), 0);
    check.same("25: all seven", Looms.withPeriods(2, 3, 5, 7, 11, 13, 17, 19).meets(7), 7);
  }

  private static void apart() {
    check.same("26: without lamps", Looms.withPeriods().apart(), 0);
    check.same("26: one", Looms.withPeriods(5).apart(), 0);
    PulseLoom loom = Looms.withPeriods(4, 6, 8, 5);
    check.same("26: none", loom.apart(), 0);
    loom.setShift(0, 1);
    check.same("26: two pairs", loom.apart(), 2);
    loom.setShift(1, 2);
    check.same("26: still two", loom.apart(), 2);
    loom = Looms.withPeriods(8, 8, 8, 8, 8, 8, 8, 8);
    for (int lamp = 0; lamp < 8; lamp++) {
      loom.setShift(lamp, lamp);
    }
    check.same("26: all 28 pairs", loom.apart(), 28);
  }

  private static void bestShift() {
    check.same("27: alone", Looms.withPeriods(5).bestShift(0), 0);
    check.same("27: none helps", Looms.withPeriods(5, 7).bestShift(0), 0);
    PulseLoom loom = Looms.withPeriods(4, 6, 8);
    check.same("27: smallest", loom.bestShift(0), 1);
    loom.setShift(0, 3);
    check.same("27: of several the smallest, not its own", loom.bestShift(0), 1);
    check.same("27: shift stays", loom.shiftOf(0), 3);
    loom.setShift(1, 1);
    check.same("27: past those that meet one each", loom.bestShift(0), 2);
    loom.setShift(0, 0);
    check.same("27: 4 meets 8 at each fourth", loom.meets(0), 1);
    loom = Looms.withPeriods(2, 2, 2);
    loom.setShift(1, 1);
    check.same("27: one is met with each", loom.bestShift(0), 0);
    loom = Looms.withPeriods(20, 20, 20);
    loom.setShift(1, 1);
    check.same("27: 2", loom.bestShift(0), 2);
    loom = Looms.withPeriods(3, 3, 3);
    loom.setShift(1, 1);
    check.same("27: the greatest", loom.bestShift(0), 2);
  }

  private static void dueIn() {
    PulseLoom loom = new PulseLoom();
    loom.addLamp(0, 7, 3, 9);
    check.same("28: this beat", loom.dueIn(0, 1), 1);
    check.same("28: 3 of 7", loom.dueIn(0, 7), 3);
    check.same("28: 10", loom.dueIn(0, 10), 6);
    loom.pass(3);
    check.same("28: from phase 3", loom.dueIn(0, 4), 0);
    check.same("28: from phase 3, 5", loom.dueIn(0, 5), 1);
    check.same("28: 100000", loom.dueIn(0, 100000), 42856);
    loom.setLimit(0);
    check.same("28: dark or not", loom.dueIn(0, 8), 3);
  }

  private static void brightest() {
    PulseLoom loom = crowded();
    check.same("29: this beat", loom.brightest(1), 17);
    loom.pass(1);
    check.same("29: the next", loom.brightest(1), 17);
    loom.pass(1);
    check.same("29: 2 beats", loom.brightest(1), 8);
    check.same("29: up to beat 4", loom.brightest(3), 9);
    check.same("29: up to beat 6", loom.brightest(5), 12);
    loom.setLimit(3);
    check.same("29: too little for any", loom.brightest(200), 0);
    loom.setLimit(4);
    check.same("29: the least lamp", loom.brightest(200), 4);
    check.same("29: without lamps", new PulseLoom().brightest(200), 0);
    loom = Looms.withPeriods(20, 19);
    loom.pass(181);
    check.same("29: up to beat 379", loom.brightest(199), 1);
    check.same("29: up to beat 380", loom.brightest(200), 2);
  }

  private static void unfairnessIn() {
    PulseLoom loom = crowded();
    for (int beats = 1; beats <= 200; beats++) {
      PulseLoom played = crowded();
      played.pass(beats);
      check.same("30: unfairnessIn(" + beats + ")", loom.unfairnessIn(beats), played.unfairness());
    }
    loom.pass(50);
    int foreseen = loom.unfairnessIn(37);
    loom.pass(37);
    check.same("30: from beat 50", foreseen, loom.unfairness());
    check.same("30: without lamps", new PulseLoom().unfairnessIn(200), 0);
    loom = new PulseLoom();
    loom.addLamp(0, 4, 3, 1);
    loom.addLamp(1, 4, 1, 1);
    check.same("30: 3 less 1", loom.unfairnessIn(4), 2);
  }

  private static void limitWanted() {
    PulseLoom loom = crowded();
    check.same("31: all three", loom.limitWanted(1), 21);
    loom.pass(1);
    check.same("31: 9 and 8", loom.limitWanted(1), 17);
    check.same("31: up to beat 11", loom.limitWanted(11), 17);
    check.same("31: up to beat 12", loom.limitWanted(12), 21);
    loom.setLimit(0);
    check.same("31: whatever the limit is", loom.limitWanted(12), 21);
    check.same("31: without lamps", new PulseLoom().limitWanted(200), 0);
    loom = new PulseLoom();
    for (int lamp = 0; lamp < 8; lamp++) {
      loom.addLamp(0, 20, 1, 9);
    }
    check.same("31: the greatest", loom.limitWanted(1), 72);
    loom.pass(1);
    check.same("31: none due", loom.limitWanted(19), 0);
  }

  private static void meanShone() {
    PulseLoom loom = new PulseLoom();
    check.sameDouble("32: without lamps", loom.meanShone(), 0.0);
    loom.addLamp(0, 4, 3, 1);
    loom.pass(4);
    check.sameDouble("32: one lamp", loom.meanShone(), 3.0);
    loom = new PulseLoom();
    loom.addLamp(0, 4, 3, 1);
    loom.addLamp(0, 4, 1, 1);
    loom.addLamp(0, 4, 1, 1);
    check.sameDouble("32: at first, three", loom.meanShone(), 0.0);
    loom.pass(4);
    check.sameDouble("32: 5 thirds", loom.meanShone(), 5.0 / 3.0);
    loom.setLimit(0);
    loom.pass(4);
    check.sameDouble("32: dark is not counted", loom.meanShone(), 5.0 / 3.0);
  }

  private static void digest() {
    check.same("33: without lamps", new PulseLoom().digest(), dueDigest(new PulseLoom()));
    check.same("33: crowded", crowded().digest(), dueDigest(crowded()));
    PulseLoom loom = crowded();
    loom.pass(12);
    loom.setShift(0, 1);
    loom.swapColours(0, 1);
    check.same("33: later", loom.digest(), dueDigest(loom));
    loom = Looms.withPeriods(20, 12, 20);
    loom.swapColours(0, 1);
    loom.addLamp(4, 19, 5, 7);
    loom.setShift(1, 1);
    loom.setShift(2, 8);
    loom.setLength(2, 3);
    check.same("33: some not due", loom.digest(), dueDigest(loom));
    loom.pass(11);
    check.same("33: some not due, later", loom.digest(), dueDigest(loom));
  }

  private static long dueDigest(PulseLoom loom) {
    return Digest.cutAtTheEnd(Digest.numbersOf(loom));
  }

  private static void lateBeats() {
    PulseLoom loom = crowded();
    for (int i = 0; i < 500; i++) {
      loom.pass(200);
    }
    check.same("late: beat()", loom.beat(), 100000);
    check.same("late: phaseOf(1)", loom.phaseOf(1), 4);
    check.same("late: shone(0)", loom.shone(0), 50000);
    check.same("late: shone(2)", loom.shone(2), 33334 - 8334);
    check.same("late: stayedDark(2)", loom.stayedDark(2), 8334);
    check.same("late: dueIn", loom.dueIn(0, 100000), 50000);
    check.same("late: beatsUntilMeet", loom.beatsUntilMeet(0, 1), 8);
    check.same("late: unfairnessIn", loom.unfairnessIn(200), 25050);
  }

  private static PulseLoom played() {
    PulseLoom loom = crowded();
    loom.addLamp(2, 20, 19, 3);
    loom.setShift(1, 5);
    loom.pass(17);
    return loom;
  }

  private static void asksChangeNothing() {
    check.unchanged("power()", PromiseTest::played, PulseLoom::power);
    check.unchanged("shines()", PromiseTest::played, loom -> loom.shines(2));
    check.unchanged("unfairness()", PromiseTest::played, PulseLoom::unfairness);
    check.unchanged("beatsUntilMeet()", PromiseTest::played, loom -> loom.beatsUntilMeet(0, 1));
    check.unchanged("bestShift()", PromiseTest::played, loom -> loom.bestShift(1));
    check.unchanged("dueIn()", PromiseTest::played, loom -> loom.dueIn(1, 100000));
    check.unchanged("brightest()", PromiseTest::played, loom -> loom.brightest(200));
    check.unchanged("unfairnessIn()", PromiseTest::played, loom -> loom.unfairnessIn(200));
    check.unchanged("limitWanted()", PromiseTest::played, loom -> loom.limitWanted(200));
    check.unchanged("digest()", PromiseTest::played, PulseLoom::digest);
  }
}
