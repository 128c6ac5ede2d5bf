import java.util.NoSuchElementException;
import java.util.function.Consumer;
import java.util.function.Supplier;

/**
 * "A method that throws an exception changes nothing. If several exceptions apply, the one that is documented first is
 * thrown": each exception of each promise is asked of a farm in full work, and a farm of which it was not asked must
 * tell just the same, also by all calls that come behind.
 */
public final class RefusalsTest {
    private static final Class<? extends RuntimeException> ARGUMENT = IllegalArgumentException.class;
    private static final Class<? extends RuntimeException> INDEX = IndexOutOfBoundsException.class;
    private static final Class<? extends RuntimeException> STATE = IllegalStateException.class;
    private static final Class<? extends RuntimeException> UNSUPPORTED = UnsupportedOperationException.class;
    private static final Class<? extends RuntimeException> NO_ELEMENT = NoSuchElementException.class;
    private static final Class<? extends RuntimeException> ARITHMETIC = ArithmeticException.class;

    private RefusalsTest() {
    }

    public static void main(String[] args) {
        probeSeesAll();
        addingHands();
        standing();
        leaving();
        asking();
        practising();
        addingLots();
        threshing();
        winnowingAndClearing();
        hiringTheDrum();
        firing();
        settings();
        measuringIndices();
        measuringArguments();
        measuringUnsupported();
        hiringAndPaying();
        ratsAndDays();
        grindingAndBaking();
        selling();
        sums();
        Check.finish("RefusalsTest");
    }

    private static void refused(String what, Class<? extends RuntimeException> due, Supplier<ThresholdRow> maker,
            Consumer<ThresholdRow> call) {
        ThresholdRow asked = maker.get();
        Check.refuses(what, due, () -> call.accept(asked));
        Check.same(what + " changes nothing", Probe.of(asked), Probe.of(maker.get()));
    }

    /**
     * Seven hands, 0, 2, 3 and 4 of them in the gang, 1 hurt, some hired and owed; lots with heaps, the last one cleared;
     * grain of the crop 1 in bin 0 and of the crop 2, with foreign grain, in bin 5; a drum that is hired still for eight
     * days, tested, and carries; rats, an owl and flour.
     */
    private static ThresholdRow busy() {
        ThresholdRow farm = Farms.withHands(7, 3, -3, 0, 0, 0, 1, 0);
        Farms.tirePair(farm, 0, 1, 30);
        Farms.stand(farm, 0, 1, 2, 3, 4);
        farm.hire(0, 'd', 12);
        farm.hire(2, 'm', 3);
        farm.hire(3, 'w', 40);
        farm.hire(5, 'd', 9);
        farm.addLot(1, 9999, 9);
        farm.addLot(2, 9999, 8);
        farm.addLot(1, 50, 0);
        farm.thresh(0, 'p', 2);
        farm.hireDrum(9, 2);
        farm.testBoiler();
        farm.fire(0, 8);
        farm.fire(1, 8);
        for (int times = 0; times < 3; times++) {
            farm.winnow(0, 6);
            farm.winnow(1, 6);
        }
        farm.setBushel(2, 60);
        farm.measure(0, 0, 0, 's', 13);
        farm.measure(1, 5, 2, 'k', 4);
        farm.grind(0, 30);
        farm.addRats(5);
        farm.addOwl();
        farm.clear(2);
        farm.pass(1);
        farm.practise(1);
        farm.setZ(777);
        return farm;
    }

    /** The busy farm with all hands and lots that there can be, and five in the gang. */
    private static ThresholdRow full() {
        ThresholdRow farm = busy();
        farm.addHand(9, 0);
        farm.stand(7);
        for (int lot = 3; lot < 12; lot++) {
            farm.addLot(3, 10, 0);
        }
        return farm;
    }

    /** The busy farm with one hand in the gang, whose drum is no more hired. */
    private static ThresholdRow idle() {
        ThresholdRow farm = busy();
        Farms.leave(farm, 0, 2, 3);
        farm.pass(8);
        return farm;
    }

    /** The busy farm 201 days behind the test of its boiler, with the drum hired anew. */
    private static ThresholdRow rusty() {
        ThresholdRow farm = busy();
        farm.pass(99);
        farm.pass(99);
        farm.pass(2);
        farm.hireDrum(9, 1);
        return farm;
    }

    /** The busy farm with more than a tenth of chaff on the heap of lot 0. */
    private static ThresholdRow chaffy() {
        ThresholdRow farm = busy();
        farm.fire(0, 9);
        Check.same("chaff", farm.heapOf(0, 'c') > farm.heapOf(0, 'g') / 10, true);
        return farm;
    }

    private static void probeSeesAll() {
        String plain = Probe.of(busy());
        Check.same("the same farm", Probe.of(busy()), plain);
        seen("bushel", plain, farm -> farm.setBushel(3, 65));
        seen("custom", plain, farm -> farm.judge(1));
        seen("owl", plain, farm -> farm.addOwl());
        seen("rate", plain, farm -> farm.hire(0, 'd', 13));
        seen("way", plain, farm -> farm.hire(0, 'm', 12));
        seen("hiring", plain, farm -> farm.hire(6, 'd', 12));
        seen("boiler", plain, farm -> farm.testBoiler());
        seen("clearing", plain, farm -> farm.clear(0));
        seen("cleaning", plain, farm -> farm.cleanDrum());
        seen("z", plain, farm -> farm.setZ(778));
        seen("rat", plain, farm -> farm.addRats(1));
        seen("hand", plain, farm -> farm.addHand(7, 0));
        seen("lot", plain, farm -> farm.addLot(0, 1, 0));
    }

    private static void seen(String what, String plain, Consumer<ThresholdRow> call) {
        ThresholdRow farm = busy();
        call.accept(farm);
        Check.same("a change is seen: " + what, Probe.of(farm).equals(plain), false);
    }

    private static void addingHands() {
        refused("strength", ARGUMENT, () -> busy(), farm -> farm.addHand(0, 0));
        refused("habit", ARGUMENT, () -> busy(), farm -> farm.addHand(1, 4));
        refused("a ninth", STATE, () -> full(), farm -> farm.addHand(1, 0));
        refused("a ninth, strength", ARGUMENT, () -> full(), farm -> farm.addHand(10, 0));
        refused("a ninth, habit", ARGUMENT, () -> full(), farm -> farm.addHand(1, -4));
    }

    private static void standing() {
        refused("no hand", INDEX, () -> busy(), farm -> farm.stand(7));
        refused("stands", UNSUPPORTED, () -> busy(), farm -> farm.stand(0));
        refused("hurt", UNSUPPORTED, () -> busy(), farm -> farm.stand(1));
        refused("a sixth", STATE, () -> full(), farm -> farm.stand(5));
        refused("a sixth, no hand", INDEX, () -> full(), farm -> farm.stand(8));
        refused("a sixth, stands", UNSUPPORTED, () -> full(), farm -> farm.stand(7));
        refused("a sixth, hurt", UNSUPPORTED, () -> full(), farm -> farm.stand(1));
    }

    private static void leaving() {
        refused("no hand", INDEX, () -> busy(), farm -> farm.leave(7));
        refused("hurt", UNSUPPORTED, () -> busy(), farm -> farm.leave(1));
        refused("does not stand", UNSUPPORTED, () -> busy(), farm -> farm.leave(5));
    }

    private static void asking() {
        refused("place", INDEX, () -> busy(), farm -> farm.placeOf(7));
        refused("error", INDEX, () -> busy(), farm -> farm.errorOf(7));
        refused("error, hurt", NO_ELEMENT, () -> busy(), farm -> farm.errorOf(1));
        refused("error, does not stand", NO_ELEMENT, () -> busy(), farm -> farm.errorOf(5));
        refused("stroke", INDEX, () -> busy(), farm -> farm.strokeOf(-1));
        refused("stroke, hurt", NO_ELEMENT, () -> busy(), farm -> farm.strokeOf(1));
        refused("stroke, does not stand", NO_ELEMENT, () -> busy(), farm -> farm.strokeOf(5));
        refused("fatigue", INDEX, () -> busy(), farm -> farm.fatigue(7));
        refused("hurt", INDEX, () -> busy(), farm -> farm.hurt(7));
        refused("lost", INDEX, () -> busy(), farm -> farm.lost(7));
        refused("ears", INDEX, () -> busy(), farm -> farm.ears(3));
        refused("heap", INDEX, () -> busy(), farm -> farm.heapOf(3, 'g'));
        refused("heap, no such thing", ARGUMENT, () -> busy(), farm -> farm.heapOf(0, 'w'));
        refused("no heap, no such thing", INDEX, () -> busy(), farm -> farm.heapOf(3, 'w'));
        refused("bin", INDEX, () -> busy(), farm -> farm.binOf(6, 'g'));
        refused("bin, no such thing", ARGUMENT, () -> busy(), farm -> farm.binOf(0, 'w'));
        refused("no bin, no such thing", INDEX, () -> busy(), farm -> farm.binOf(6, 'w'));
    }

    private static void practising() {
        refused("rounds", ARGUMENT, () -> busy(), farm -> farm.practise(0));
        refused("alone", UNSUPPORTED, () -> idle(), farm -> farm.practise(1));
        refused("alone, rounds", ARGUMENT, () -> idle(), farm -> farm.practise(100));
    }

    private static void addingLots() {
        refused("crop", ARGUMENT, () -> busy(), farm -> farm.addLot(4, 1, 0));
        refused("pints", ARGUMENT, () -> busy(), farm -> farm.addLot(0, 0, 0));
        refused("damp", ARGUMENT, () -> busy(), farm -> farm.addLot(0, 1, 10));
        refused("a 13th", STATE, () -> full(), farm -> farm.addLot(0, 1, 0));
        refused("a 13th, crop", ARGUMENT, () -> full(), farm -> farm.addLot(-1, 1, 0));
        refused("a 13th, pints", ARGUMENT, () -> full(), farm -> farm.addLot(0, 10000, 0));
        refused("a 13th, damp", ARGUMENT, () -> full(), farm -> farm.addLot(0, 1, -1));
    }

    private static void threshing() {
        refused("lot", INDEX, () -> busy(), farm -> farm.thresh(3, 'c', 1));
        refused("lot, floor", INDEX, () -> busy(), farm -> farm.thresh(3, 'x', 1));
        refused("lot, rounds", INDEX, () -> busy(), farm -> farm.thresh(3, 'c', 0));
        refused("floor", ARGUMENT, () -> busy(), farm -> farm.thresh(0, 'x', 1));
        refused("rounds", ARGUMENT, () -> busy(), farm -> farm.thresh(0, 'c', 100));
        refused("alone", UNSUPPORTED, () -> idle(), farm -> farm.thresh(0, 'c', 1));
        refused("alone, lot", INDEX, () -> idle(), farm -> farm.thresh(-1, 'c', 1));
        refused("alone, floor", ARGUMENT, () -> idle(), farm -> farm.thresh(0, 'x', 1));
        refused("alone, rounds", ARGUMENT, () -> idle(), farm -> farm.thresh(0, 'p', 0));
    }

    private static void winnowingAndClearing() {
        refused("lot", INDEX, () -> busy(), farm -> farm.winnow(3, 9));
        refused("lot, wind", INDEX, () -> busy(), farm -> farm.winnow(3, 0));
        refused("wind", ARGUMENT, () -> busy(), farm -> farm.winnow(0, 10));
        refused("no lot to clear", INDEX, () -> busy(), farm -> farm.clear(3));
        refused("cleared", UNSUPPORTED, () -> busy(), farm -> farm.clear(2));
    }

    private static void hiringTheDrum() {
        refused("days", ARGUMENT, () -> idle(), farm -> farm.hireDrum(0, 1));
        refused("price", ARGUMENT, () -> idle(), farm -> farm.hireDrum(1, 100));
        refused("hired", UNSUPPORTED, () -> busy(), farm -> farm.hireDrum(1, 1));
        refused("hired, days", ARGUMENT, () -> busy(), farm -> farm.hireDrum(100, 1));
        refused("hired, price", ARGUMENT, () -> busy(), farm -> farm.hireDrum(1, 0));
    }

    private static void firing() {
        refused("lot", INDEX, () -> busy(), farm -> farm.fire(3, 1));
        refused("lot, hours", INDEX, () -> busy(), farm -> farm.fire(3, 0));
        refused("hours", ARGUMENT, () -> busy(), farm -> farm.fire(0, 10));
        refused("not hired", UNSUPPORTED, () -> idle(), farm -> farm.fire(0, 1));
        refused("not hired, lot", INDEX, () -> idle(), farm -> farm.fire(3, 1));
        refused("not hired, hours", ARGUMENT, () -> idle(), farm -> farm.fire(0, 0));
        refused("not tested", UNSUPPORTED, () -> rusty(), farm -> farm.fire(1, 1));
        refused("not tested, lot", INDEX, () -> rusty(), farm -> farm.fire(-1, 1));
        refused("not tested, hours", ARGUMENT, () -> rusty(), farm -> farm.fire(1, 10));
    }

    private static void settings() {
        refused("z", ARGUMENT, () -> busy(), farm -> farm.setZ(0));
        refused("house", INDEX, () -> busy(), farm -> farm.setBushel(4, 60));
        refused("house, pints", INDEX, () -> busy(), farm -> farm.setBushel(4, 73));
        refused("pints", ARGUMENT, () -> busy(), farm -> farm.setBushel(3, 73));
        refused("custom", ARGUMENT, () -> busy(), farm -> farm.judge(4));
    }

    private static void measuringIndices() {
        refused("lot", INDEX, () -> busy(), farm -> farm.measure(3, 0, 0, 's', 1));
        refused("lot, way", INDEX, () -> busy(), farm -> farm.measure(3, 0, 0, 'x', 1));
        refused("lot, bushels", INDEX, () -> busy(), farm -> farm.measure(3, 0, 0, 's', 0));
        refused("lot, too much", INDEX, () -> busy(), farm -> farm.measure(3, 0, 0, 's', 99));
        refused("bin", INDEX, () -> busy(), farm -> farm.measure(0, 6, 0, 's', 1));
        refused("bin, way", INDEX, () -> busy(), farm -> farm.measure(0, 6, 0, 'x', 1));
        refused("bin, bushels", INDEX, () -> busy(), farm -> farm.measure(0, -1, 0, 's', 100));
        refused("bin, chaff", INDEX, () -> chaffy(), farm -> farm.measure(0, 6, 0, 's', 1));
        refused("house", INDEX, () -> busy(), farm -> farm.measure(0, 0, 4, 's', 1));
        refused("house, way", INDEX, () -> busy(), farm -> farm.measure(0, 0, 4, 'x', 1));
        refused("house, bushels", INDEX, () -> busy(), farm -> farm.measure(0, 0, -1, 's', 0));
        refused("house, another crop", INDEX, () -> busy(), farm -> farm.measure(1, 0, 4, 's', 1));
    }

    private static void measuringArguments() {
        refused("way", ARGUMENT, () -> busy(), farm -> farm.measure(0, 0, 0, 'x', 1));
        refused("bushels", ARGUMENT, () -> busy(), farm -> farm.measure(0, 0, 0, 's', 0));
        refused("chaff, way", ARGUMENT, () -> chaffy(), farm -> farm.measure(0, 0, 0, 'x', 1));
        refused("chaff, bushels", ARGUMENT, () -> chaffy(), farm -> farm.measure(0, 0, 0, 's', 100));
        refused("too much, bushels", ARGUMENT, () -> busy(), farm -> farm.measure(2, 1, 0, 'h', 100));
        refused("another crop, way", ARGUMENT, () -> busy(), farm -> farm.measure(1, 0, 0, 'x', 1));
        refused("another crop, bushels", ARGUMENT, () -> busy(), farm -> farm.measure(1, 0, 0, 's', 0));
        refused("room, way", ARGUMENT, () -> withoutRoom(), farm -> farm.measure(1, 0, 0, 'd', 1));
    }

    private static void measuringUnsupported() {
        refused("chaff", UNSUPPORTED, () -> chaffy(), farm -> farm.measure(0, 0, 0, 's', 1));
        refused("not as much", UNSUPPORTED, () -> busy(), farm -> farm.measure(2, 1, 0, 's', 1));
        refused("another crop", UNSUPPORTED, () -> busy(), farm -> farm.measure(1, 0, 0, 's', 1));
        refused("no room", UNSUPPORTED, () -> withoutRoom(), farm -> farm.measure(1, 0, 0, 's', 1));
    }

    /** A full bin 0, and a bushel that is left on the heap of lot 1. */
    private static ThresholdRow withoutRoom() {
        ThresholdRow farm = Farms.withFullBin();
        Check.same("left", farm.heapOf(1, 'g') > 100, true);
        return farm;
    }

    private static void hiringAndPaying() {
        refused("hand", INDEX, () -> busy(), farm -> farm.hire(7, 'w', 1));
        refused("hand, way", INDEX, () -> busy(), farm -> farm.hire(7, 'x', 1));
        refused("hand, rate", INDEX, () -> busy(), farm -> farm.hire(-1, 'd', 0));
        refused("way", ARGUMENT, () -> busy(), farm -> farm.hire(0, 'x', 1));
        refused("rate", ARGUMENT, () -> busy(), farm -> farm.hire(0, 'w', 100));
        refused("rate", ARGUMENT, () -> busy(), farm -> farm.hire(2, 'd', 0));
        refused("owed", INDEX, () -> busy(), farm -> farm.owed(7));
        refused("pay", INDEX, () -> busy(), farm -> farm.pay(7));
    }

    private static ThresholdRow nineOwls() {
        ThresholdRow farm = busy();
        for (int owl = 2; owl <= 9; owl++) {
            farm.addOwl();
        }
        return farm;
    }

    /** The busy farm on the day 9901. */
    private static ThresholdRow late() {
        ThresholdRow farm = busy();
        for (int times = 0; times < 100; times++) {
            farm.pass(99);
        }
        return farm;
    }

    private static void ratsAndDays() {
        refused("no rats", ARGUMENT, () -> busy(), farm -> farm.addRats(0));
        refused("rats", ARGUMENT, () -> busy(), farm -> farm.addRats(100));
        refused("a tenth owl", STATE, () -> nineOwls(), farm -> farm.addOwl());
        refused("no days", ARGUMENT, () -> busy(), farm -> farm.pass(0));
        refused("days", ARGUMENT, () -> busy(), farm -> farm.pass(100));
        refused("no such day", STATE, () -> late(), farm -> farm.pass(99));
        refused("no such day, days", ARGUMENT, () -> late(), farm -> farm.pass(100));
    }

    private static void grindingAndBaking() {
        refused("bin", INDEX, () -> busy(), farm -> farm.grind(6, 1));
        refused("bin, pints", INDEX, () -> busy(), farm -> farm.grind(6, 0));
        refused("pints", ARGUMENT, () -> busy(), farm -> farm.grind(0, 0));
        refused("not as much, pints", ARGUMENT, () -> busy(), farm -> farm.grind(0, 10000));
        refused("not as much", UNSUPPORTED, () -> busy(), farm -> farm.grind(0, 800));
        refused("empty", UNSUPPORTED, () -> busy(), farm -> farm.grind(1, 1));
        refused("loaves", ARGUMENT, () -> busy(), farm -> farm.bake(0, 64));
        refused("price", ARGUMENT, () -> busy(), farm -> farm.bake(1, 9));
        refused("flour, loaves", ARGUMENT, () -> busy(), farm -> farm.bake(1000, 200));
        refused("flour, price", ARGUMENT, () -> busy(), farm -> farm.bake(999, 201));
        refused("flour", UNSUPPORTED, () -> busy(), farm -> farm.bake(99, 64));
    }

    private static void selling() {
        refused("bin", INDEX, () -> busy(), farm -> farm.sellSeed(6, 1, 1));
        refused("bin, pints", INDEX, () -> busy(), farm -> farm.sellSeed(6, 0, 1));
        refused("bin, price", INDEX, () -> busy(), farm -> farm.sellSeed(-1, 1, 0));
        refused("pints", ARGUMENT, () -> busy(), farm -> farm.sellSeed(0, 0, 1));
        refused("price", ARGUMENT, () -> busy(), farm -> farm.sellSeed(0, 1, 10));
        refused("not as much, pints", ARGUMENT, () -> busy(), farm -> farm.sellSeed(0, 10000, 1));
        refused("not as much, price", ARGUMENT, () -> busy(), farm -> farm.sellSeed(0, 9999, 0));
        refused("not as much", UNSUPPORTED, () -> busy(), farm -> farm.sellSeed(0, 9999, 1));
        refused("bruised", UNSUPPORTED, () -> busy(), farm -> farm.sellSeed(0, farm.binOf(0, 'g'), 1));
        refused("empty", UNSUPPORTED, () -> busy(), farm -> farm.sellSeed(1, 1, 1));
        refused("custom", UNSUPPORTED, () -> withForeign(), farm -> farm.sellSeed(0, 1, 1));
        refused("custom, pints", ARGUMENT, () -> withForeign(), farm -> farm.sellSeed(0, 0, 1));
        refused("custom, price", ARGUMENT, () -> withForeign(), farm -> farm.sellSeed(0, 1, 10));
    }

    /** Eight pints of 168 in bin 0 are foreign. */
    private static ThresholdRow withForeign() {
        ThresholdRow farm = new ThresholdRow();
        farm.addLot(1, 2000, 0);
        farm.addLot(2, 900, 9);
        farm.hireDrum(3, 20);
        farm.testBoiler();
        farm.fire(0, 3);
        farm.fire(1, 1);
        farm.winnow(1, 9);
        farm.winnow(1, 9);
        farm.winnow(1, 6);
        farm.setBushel(3, 56);
        farm.measure(1, 0, 3, 's', 3);
        Check.same("foreign", farm.binOf(0, 'f'), 8);
        return farm;
    }

    private static void sums() {
        refused("account", ARGUMENT, () -> busy(), farm -> farm.account('z'));
        refused("no hands", ARITHMETIC, () -> withForeign(), farm -> farm.meanFatigue());
        refused("no grain in bins", ARITHMETIC, () -> Farms.withHeap(1), farm -> farm.bruisedShare());
    }
}
