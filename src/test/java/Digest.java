import java.math.BigInteger;
import java.util.ArrayList;
import java.util.List;

/** The document's sentence of the digest, in the calls that it names. */
final class Digest {
  private Digest() {
  }

  /** The numbers of the document's sentence, in its order. */
  static List<Long> numbersOf(PulseLoom loom) {
    List<Long> numbers = new ArrayList<>(List.of((long) loom.beat(), (long) loom.lamps(), (long) loom.limit(),
        (long) loom.power(), (long) loom.unfairness(), loom.together(), (long) loom.apart(),
        (long) loom.brightest(12), (long) loom.unfairnessIn(12), (long) loom.limitWanted(12)));
    for (int lamp = 0; lamp < loom.lamps(); lamp++) {
      numbers.addAll(List.of((long) loom.phaseOf(lamp), loom.isDue(lamp) ? 1L : 0L, loom.shines(lamp) ? 1L : 0L,
          (long) loom.colourOf(lamp), (long) loom.shone(lamp), (long) loom.stayedDark(lamp),
          (long) loom.meets(lamp), (long) loom.bestShift(lamp)));
      for (int other = 0; other < loom.lamps(); other++) {
        numbers.add((long) loom.beatsUntilMeet(lamp, other));
      }
    }
    for (int colour = 0; colour < 6; colour++) {
      numbers.add((long) loom.seen(colour));
    }
    return numbers;
  }

  /** "wraps around as a 64-bit integer": worked out without any bound, and cut to 64 bits at the end alone. */
  static long cutAtTheEnd(List<Long> numbers) {
    BigInteger d = BigInteger.valueOf(2297);
    for (long x : numbers) {
      d = d.multiply(BigInteger.valueOf(31)).add(BigInteger.valueOf(x));
    }
    return d.longValue();
  }
}
