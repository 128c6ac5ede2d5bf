import java.util.function.Consumer;
import java.util.function.IntConsumer;

/**
 * Each number and letter that a promise bounds: both ends are taken, what is one below or above, and the least and
 * the greatest int, are refused by just the exception that is due.
 */
public final class LimitsTest {
    private static final Class<? extends RuntimeException> ARGUMENT = IllegalArgumentException.class;
    private static final Class<? extends RuntimeException> INDEX = IndexOutOfBoundsException.class;

    private LimitsTest() {
    }

    public static void main(String[] args) {
        numbersOfTheGang();
        numbersOfLots();
        numbersOfTheDrum();
        numbersOfBushelsAndBins();
        numbersOfWagesAndRats();
        numbersOfBread();
        handsThatThereAre();
        handsThatStand();
        lotsThatThereAre();
        binsAndHousesThatThereAre();
        letters();
        Check.finish("LimitsTest");
    }

    private static void limits(String what, int least, int most, Class<? extends RuntimeException> due,
            IntConsumer call) {
        for (int inside : new int[] {least, most}) {
            Check.takes(what + " " + inside, () -> call.accept(inside));
        }
        for (int outside : new int[] {least - 1, most + 1, Integer.MIN_VALUE, Integer.MAX_VALUE}) {
            Check.refuses(what + " " + outside, due, () -> call.accept(outside));
        }
    }

    private static void numbersOfTheGang() {
        limits("strength", 1, 9, ARGUMENT, n -> new ThresholdRow().addHand(n, 0));
        limits("habit", -3, 3, ARGUMENT, n -> new ThresholdRow().addHand(1, n));
        limits("rounds of practice", 1, 99, ARGUMENT, n -> Farms.withGang(1, 1).practise(n));
    }

    private static void numbersOfLots() {
        limits("crop", 0, 3, ARGUMENT, n -> new ThresholdRow().addLot(n, 1, 0));
        limits("pints", 1, 9999, ARGUMENT, n -> new ThresholdRow().addLot(0, n, 0));
        limits("damp", 0, 9, ARGUMENT, n -> new ThresholdRow().addLot(0, 1, n));
        limits("rounds on clay", 1, 99, ARGUMENT, n -> threshable().thresh(0, 'c', n));
        limits("rounds on planks", 1, 99, ARGUMENT, n -> threshable().thresh(0, 'p', n));
        limits("wind", 1, 9, ARGUMENT, n -> threshable().winnow(0, n));
    }

    private static ThresholdRow threshable() {
        ThresholdRow farm = Farms.withGang(1, 1);
        farm.addLot(0, 9, 9);
        return farm;
    }

    private static void numbersOfTheDrum() {
        limits("days of hiring", 1, 99, ARGUMENT, n -> new ThresholdRow().hireDrum(n, 1));
        limits("price of a day", 1, 99, ARGUMENT, n -> new ThresholdRow().hireDrum(1, n));
        limits("hours", 1, 9, ARGUMENT, n -> Farms.withDrum(0).fire(0, n));
        limits("z", 1, 2147483646, ARGUMENT, n -> new ThresholdRow().setZ(n));
    }

    private static void numbersOfBushelsAndBins() {
        limits("pints of a bushel", 56, 72, ARGUMENT, n -> new ThresholdRow().setBushel(0, n));
        limits("bushels", 1, 99, ARGUMENT, n -> Farms.withHeap(0).measure(0, 0, 0, 's', n));
        limits("custom", 0, 3, ARGUMENT, n -> new ThresholdRow().judge(n));
    }

    private static void numbersOfWagesAndRats() {
        for (char way : "dmw".toCharArray()) {
            limits("rate by " + way, 1, 99, ARGUMENT, n -> Farms.withHands(1, 0).hire(0, way, n));
        }
        limits("rats", 1, 99, ARGUMENT, n -> new ThresholdRow().addRats(n));
        limits("days", 1, 99, ARGUMENT, n -> new ThresholdRow().pass(n));
    }

    private static void numbersOfBread() {
        limits("pints to grind", 1, 9999, ARGUMENT, n -> Farms.withFullBin().grind(0, n));
        limits("pints of seed", 1, 9999, ARGUMENT, n -> Farms.withFullBin().sellSeed(0, n, 1));
        limits("price of a pint", 1, 9, ARGUMENT, n -> Farms.withFullBin().sellSeed(0, 1, n));
        limits("loaves", 1, 999, ARGUMENT, n -> withFlour().bake(n, 200));
        limits("price of a bushel", 10, 200, ARGUMENT, n -> withFlour().bake(1, n));
    }

    private static ThresholdRow withFlour() {
        ThresholdRow farm = Farms.withFullBin();
        farm.grind(0, 9999);
        return farm;
    }

    private static void handsThatThereAre() {
        for (int count : new int[] {1, 8}) {
            int last = count - 1;
            int[] habits = new int[count];
            limits("stand", 0, last, INDEX, n -> Farms.withHands(1, habits).stand(n));
            limits("placeOf", 0, last, INDEX, n -> Farms.withHands(1, habits).placeOf(n));
            limits("fatigue", 0, last, INDEX, n -> Farms.withHands(1, habits).fatigue(n));
            limits("hurt", 0, last, INDEX, n -> Farms.withHands(1, habits).hurt(n));
            limits("lost", 0, last, INDEX, n -> Farms.withHands(1, habits).lost(n));
            limits("hire", 0, last, INDEX, n -> Farms.withHands(1, habits).hire(n, 'd', 1));
            limits("owed", 0, last, INDEX, n -> Farms.withHands(1, habits).owed(n));
            limits("pay", 0, last, INDEX, n -> Farms.withHands(1, habits).pay(n));
        }
    }

    private static void handsThatStand() {
        for (int[] strengths : new int[][] {{1}, {1, 2, 3, 4, 5}}) {
            int last = strengths.length - 1;
            limits("leave", 0, last, INDEX, n -> Farms.withGang(strengths).leave(n));
            limits("errorOf", 0, last, INDEX, n -> Farms.withGang(strengths).errorOf(n));
            limits("strokeOf", 0, last, INDEX, n -> Farms.withGang(strengths).strokeOf(n));
        }
    }

    private static void lotsThatThereAre() {
        for (int count : new int[] {1, 12}) {
            int last = count - 1;
            int[] crops = new int[count];
            limits("ears", 0, last, INDEX, n -> Farms.withDrum(crops).ears(n));
            limits("heapOf", 0, last, INDEX, n -> Farms.withDrum(crops).heapOf(n, 'g'));
            limits("thresh", 0, last, INDEX, n -> threshers(crops).thresh(n, 'c', 1));
            limits("winnow", 0, last, INDEX, n -> Farms.withDrum(crops).winnow(n, 1));
            limits("clear", 0, last, INDEX, n -> Farms.withDrum(crops).clear(n));
            limits("fire", 0, last, INDEX, n -> Farms.withDrum(crops).fire(n, 1));
            limits("measure from", 0, last, INDEX, n -> heapOn(last, n, crops).measure(n, 0, 0, 's', 1));
        }
    }

    private static ThresholdRow threshers(int... crops) {
        ThresholdRow farm = Farms.withDrum(crops);
        farm.addHand(1, 0);
        farm.addHand(1, 0);
        Farms.stand(farm, 0, 1);
        return farm;
    }

    private static ThresholdRow heapOn(int last, int lot, int... crops) {
        ThresholdRow farm = Farms.withDrum(crops);
        Farms.fillHeap(farm, Math.max(0, Math.min(lot, last)));
        return farm;
    }

    private static void binsAndHousesThatThereAre() {
        limits("binOf", 0, 5, INDEX, n -> new ThresholdRow().binOf(n, 'g'));
        limits("measure into", 0, 5, INDEX, n -> Farms.withHeap(0).measure(0, n, 0, 's', 1));
        limits("measure by", 0, 3, INDEX, n -> Farms.withHeap(0).measure(0, 0, n, 's', 1));
        limits("setBushel", 0, 3, INDEX, n -> new ThresholdRow().setBushel(n, 60));
        limits("grind", 0, 5, INDEX, n -> fullBins().grind(n, 1));
        limits("sellSeed", 0, 5, INDEX, n -> fullBins().sellSeed(n, 1, 1));
    }

    private static ThresholdRow fullBins() {
        ThresholdRow farm = Farms.withHeap(0);
        for (int bin = 0; bin < 6; bin++) {
            farm.measure(0, bin, 0, 's', 1);
        }
        return farm;
    }

    private static void letters() {
        letters("thing of a heap", "gcbf", c -> threshable().heapOf(0, c));
        letters("floor", "cp", c -> threshable().thresh(0, c, 1));
        letters("way of measuring", "shk", c -> Farms.withHeap(0).measure(0, 0, 0, c, 1));
        letters("thing of a bin", "gbfc", c -> new ThresholdRow().binOf(0, c));
        letters("way of hiring", "dmw", c -> Farms.withHands(1, 0).hire(0, c, 1));
        letters("account", "aehcbtgswfxrmo", c -> new ThresholdRow().account(c));
    }

    private static void letters(String what, String there, Consumer<Character> call) {
        for (int code = 0; code < 65536; code++) {
            char letter = (char) code;
            // Beyond the first ones a letter could only pass by its low byte or its low bits.
            if (code > 1023 && there.indexOf(code & 127) < 0) {
                continue;
            }
            if (there.indexOf(letter) >= 0) {
                Check.takes(what + " " + letter, () -> call.accept(letter));
            } else {
                Check.refuses(what + " " + code, ARGUMENT, () -> call.accept(letter));
            }
        }
    }
}
