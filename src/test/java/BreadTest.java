/** Promises 35 to 39: grinding, flour, loaves, seed and money. */
public final class BreadTest {
    private BreadTest() {
    }

    public static void main(String[] args) {
        grinding();
        grindingForeign();
        grindingArguments();
        baking();
        bakingArguments();
        sellingSeed();
        forbiddenSeed();
        sellingForeign();
        sellingArguments();
        moneyOfAll();
        Check.finish("BreadTest");
    }

    private static ThresholdRow withBin() {
        ThresholdRow farm = Farms.withHeap(1);
        farm.measure(0, 0, 0, 's', 1);
        return farm;
    }

    private static void grinding() {
        ThresholdRow farm = withBin();
        Check.same("bruised", farm.binOf(0, 'b'), 3);
        Check.same("sound one first", farm.grind(0, 60), 720);
        Check.same("bruised grain is left", farm.binOf(0, 'b'), 3);
        Check.same("one of each", farm.grind(0, 2), 20);
        Check.same("bruised", farm.binOf(0, 'b'), 2);
        Check.same("grain", farm.binOf(0, 'g'), 2);
        Check.same("flour", farm.flour(), 740);
        Check.same("crop", farm.binOf(0, 'c'), 1);
        Check.unsupported("3 of 2", () -> farm.grind(0, 3));
        Check.same("the last", farm.grind(0, 2), 16);
        Check.same("no crop", farm.binOf(0, 'c'), -1);
        Check.same("flour", farm.flour(), 756);
        Check.same("ground", farm.account('m'), 64);
        Check.same("sound", farm.isSound(), true);
        Check.same("at once", withBin().grind(0, 64), 756);
    }

    /** A bin of 5760 pints with foreign grain. */
    private static ThresholdRow withForeign() {
        ThresholdRow farm = Farms.withDrum(1, 2);
        farm.fire(0, 9);
        Farms.fillHeap(farm, 1);
        farm.measure(1, 0, 0, 's', 99);
        return farm;
    }

    private static void grindingForeign() {
        ThresholdRow farm = withForeign();
        int foreign = farm.binOf(0, 'f');
        farm.grind(0, 5760 - foreign);
        Check.same("all that is left", farm.binOf(0, 'f'), foreign);
        farm.grind(0, 1);
        Check.same("at most all that is left", farm.binOf(0, 'f'), foreign - 1);
        Check.same("and that is bruised", farm.binOf(0, 'b'), foreign - 1);
    }

    private static void grindingArguments() {
        ThresholdRow farm = withBin();
        String before = Snapshot.of(farm);
        Check.index("bin 6", () -> farm.grind(6, 1));
        Check.index("bin -1, no pint", () -> farm.grind(-1, 0));
        Check.argument("no pint", () -> farm.grind(0, 0));
        Check.argument("10000 pints", () -> farm.grind(0, 10000));
        Check.unsupported("9999 pints", () -> farm.grind(0, 9999));
        Check.unsupported("65 of 64", () -> farm.grind(0, 65));
        Check.unsupported("an empty bin", () -> farm.grind(1, 1));
        Check.same("nothing changes", Snapshot.of(farm), before);
    }

    private static void baking() {
        ThresholdRow farm = withBin();
        farm.grind(0, 64);
        int money = farm.money();
        Check.same("2000 by 64", farm.bake(5, 64), 31);
        Check.same("flour", farm.flour(), 601);
        Check.same("a loaf brings 1", farm.money(), money + 5);
        Check.same("the dearest bushel", farm.bake(1, 200), 10);
        Check.same("flour", farm.flour(), 591);
        Check.same("the cheapest", farm.bake(2, 10), 200);
        Check.same("flour", farm.flour(), 191);
        Check.unsupported("200 of 191", () -> farm.bake(1, 10));
        Check.unsupported("200 of 191", () -> farm.bake(20, 200));
        Check.same("19 loaves", farm.bake(19, 200), 10);
        Check.unsupported("10 of 1", () -> farm.bake(1, 200));
        Check.same("flour", farm.flour(), 1);
    }

    private static void bakingArguments() {
        ThresholdRow farm = withBin();
        farm.grind(0, 64);
        String before = Snapshot.of(farm);
        Check.argument("no loaf", () -> farm.bake(0, 64));
        Check.argument("1000 loaves", () -> farm.bake(1000, 64));
        Check.argument("a price of 9", () -> farm.bake(1, 9));
        Check.argument("a price of 0", () -> farm.bake(1, 0));
        Check.argument("a price of 201", () -> farm.bake(1, 201));
        Check.unsupported("999 loaves", () -> farm.bake(999, 200));
        Check.same("nothing changes", Snapshot.of(farm), before);
        ThresholdRow other = withBin();
        other.grind(0, 64);
        Check.same("2000 by 29, cut", other.bake(1, 29), 68);
        Check.same("756 by 36: all", farm.bake(21, 55), 36);
        Check.same("no flour", farm.flour(), 0);
    }

    private static void sellingSeed() {
        ThresholdRow farm = withBin();
        int money = farm.money();
        Check.unsupported("62 of 61 sound", () -> farm.sellSeed(0, 62, 1));
        Check.same("ten", farm.sellSeed(0, 10, 5), 50);
        Check.same("grain", farm.binOf(0, 'g'), 54);
        Check.same("bruised stays", farm.binOf(0, 'b'), 3);
        Check.same("all sound grain", farm.sellSeed(0, 51, 9), 459);
        Check.same("money", farm.money(), money + 509);
        Check.same("sold", farm.account('o'), 61);
        Check.unsupported("bruised is not sold", () -> farm.sellSeed(0, 1, 1));
        Check.same("crop", farm.binOf(0, 'c'), 1);
        Check.same("sound", farm.isSound(), true);
    }

    private static void forbiddenSeed() {
        ThresholdRow farm = withForeign();
        Check.same("foreign", farm.binOf(0, 'f'), 42);
        Check.same("42 of 5760: 57", farm.sellSeed(0, 1460, 1), 1460);
        Check.same("42 of 4300: 43", farm.sellSeed(0, 100, 1), 100);
        Check.same("42 of 4200: 42", farm.sellSeed(0, 1, 1), 1);
        Check.unsupported("42 of 4199: 41", () -> farm.sellSeed(0, 1, 1));
        Check.same("bound", farm.judge(3), true);
        Check.same("a court ended it", farm.sellSeed(0, 1, 1), 1);
    }

    private static void sellingForeign() {
        ThresholdRow farm = Farms.withGang(1, 1);
        farm.addLot(1, 400, 9);
        farm.addLot(2, 60, 9);
        farm.hireDrum(9, 1);
        farm.testBoiler();
        farm.fire(0, 9);
        Check.same("carried", farm.carried(), 3);
        farm.fire(1, 1);
        farm.thresh(1, 'c', 30);
        Check.same("grain", farm.heapOf(1, 'g'), 63);
        Check.same("foreign", farm.heapOf(1, 'f'), 3);
        Check.same("nothing bruised", farm.heapOf(1, 'b'), 0);
        farm.winnow(1, 6);
        farm.winnow(1, 6);
        farm.winnow(1, 6);
        farm.setBushel(0, 63);
        farm.measure(1, 0, 0, 's', 1);
        Check.same("foreign", farm.binOf(0, 'f'), 3);
        farm.judge(3);
        farm.sellSeed(0, 60, 1);
        Check.same("as much as is left", farm.binOf(0, 'f'), 3);
        farm.sellSeed(0, 2, 1);
        Check.same("at most all that is left", farm.binOf(0, 'f'), 1);
        farm.sellSeed(0, 1, 1);
        Check.same("none", farm.binOf(0, 'f'), 0);
        Check.same("no crop", farm.binOf(0, 'c'), -1);
    }

    private static void sellingArguments() {
        ThresholdRow farm = withBin();
        String before = Snapshot.of(farm);
        Check.index("bin 6", () -> farm.sellSeed(6, 1, 1));
        Check.index("bin -1, no price", () -> farm.sellSeed(-1, 0, 0));
        Check.argument("no pint", () -> farm.sellSeed(0, 0, 1));
        Check.argument("10000 pints", () -> farm.sellSeed(0, 10000, 1));
        Check.argument("no price", () -> farm.sellSeed(0, 1, 0));
        Check.argument("a price of 10", () -> farm.sellSeed(0, 1, 10));
        Check.argument("no price for too much", () -> farm.sellSeed(0, 9999, 0));
        Check.unsupported("9999 pints", () -> farm.sellSeed(0, 9999, 1));
        Check.unsupported("an empty bin", () -> farm.sellSeed(1, 1, 1));
        Check.same("nothing changes", Snapshot.of(farm), before);
    }

    private static void moneyOfAll() {
        ThresholdRow farm = withBin();
        Check.same("the drum", farm.money(), -99);
        farm.addHand(5, 0);
        farm.hire(0, 'w', 30);
        Check.same("wages that are owed", farm.money(), -99);
        farm.pay(0);
        Check.same("wages that were paid", farm.money(), -129);
        farm.sellSeed(0, 20, 3);
        Check.same("seed", farm.money(), -69);
        farm.grind(0, 44);
        farm.bake(40, 200);
        Check.same("loaves", farm.money(), -29);
    }
}
