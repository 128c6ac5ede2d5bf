/** Promises 24 to 27: bushels, measuring, bins and customs. */
public final class BushelsTest {
    private BushelsTest() {
    }

    public static void main(String[] args) {
        settingBushels();
        ways();
        measuring();
        tithes();
        tithesOfEachLot();
        tithesEnd();
        chaffAheadOfTheFirstBushel();
        tooLittleGrain();
        otherCrops();
        room();
        titheNeedsNoRoom();
        foreignShares();
        measuringArguments();
        binArguments();
        judging();
        Check.finish("BushelsTest");
    }

    private static void settingBushels() {
        ThresholdRow farm = new ThresholdRow();
        Check.same("64 at first", farm.setBushel(0, 56), 64);
        Check.same("the one before", farm.setBushel(0, 72), 56);
        Check.same("another house", farm.setBushel(3, 60), 64);
        Check.index("house 4", () -> farm.setBushel(4, 60));
        Check.index("house -1, no bushel", () -> farm.setBushel(-1, 0));
        Check.argument("55 pints", () -> farm.setBushel(0, 55));
        Check.argument("73 pints", () -> farm.setBushel(0, 73));
        Check.same("as it was", farm.setBushel(0, 64), 72);
        Check.same("as it was", farm.setBushel(3, 64), 60);
    }

    private static void ways() {
        ThresholdRow farm = Farms.withHeap(0);
        Check.same("struck", farm.measure(0, 0, 0, 's', 1), 64);
        Check.same("heaped", farm.measure(0, 0, 1, 'h', 1), 72);
        Check.same("shaken", farm.measure(0, 0, 2, 'k', 1), 68);
        farm.setBushel(3, 63);
        Check.same("struck", farm.measure(0, 0, 3, 's', 1), 63);
        Check.same("heaped, cut", farm.measure(0, 0, 3, 'h', 1), 70);
        Check.same("shaken, cut", farm.measure(0, 0, 3, 'k', 1), 66);
        Check.same("another house", farm.measure(0, 0, 2, 'h', 1), 72);
        Check.same("grain", farm.binOf(0, 'g'), 475);
        Check.same("heap", farm.heapOf(0, 'g'), 8683);
        Check.same("chaff stays", farm.heapOf(0, 'c'), 592);
    }

    private static void measuring() {
        ThresholdRow farm = Farms.withHeap(2);
        Check.same("no crop", farm.binOf(4, 'c'), -1);
        Check.same("two bushels", farm.measure(0, 4, 0, 's', 2), 128);
        Check.same("grain", farm.binOf(4, 'g'), 128);
        Check.same("bruised, cut for each bushel", farm.binOf(4, 'b'), 6);
        Check.same("the crop that came", farm.binOf(4, 'c'), 2);
        Check.same("heap", farm.heapOf(0, 'g'), 9030);
        Check.same("bruised", farm.heapOf(0, 'b'), 452);
        Check.same("by the heap ahead of each bushel", farm.measure(0, 1, 1, 's', 7), 448);
        Check.same("bruised", farm.binOf(1, 'b'), 21);
        Check.same("bruised on the heap", farm.heapOf(0, 'b'), 431);
        Check.same("in bins", farm.account('b'), 576);
        Check.same("sound", farm.isSound(), true);
    }

    private static void tithes() {
        ThresholdRow farm = Farms.withHeap(2);
        Check.same("nine", farm.measure(0, 0, 0, 's', 9), 576);
        Check.same("no tithe", farm.account('t'), 0);
        int bruised = farm.heapOf(0, 'b');
        Check.same("the tenth", farm.measure(0, 1, 0, 'h', 1), 0);
        Check.same("tithe", farm.account('t'), 72);
        Check.same("it takes its bruised grain along", farm.heapOf(0, 'b'), bruised - 3);
        Check.same("the bin has none of that", farm.binOf(1, 'b'), 0);
        Check.same("and is empty", farm.binOf(1, 'g'), 0);
        Check.same("so it has no crop", farm.binOf(1, 'c'), -1);
        Check.same("20 of 21 to 41", farm.measure(0, 1, 0, 's', 31), 28 * 64);
        Check.same("three more", farm.account('t'), 72 + 3 * 64);
        Check.same("sound", farm.isSound(), true);
    }

    private static void tithesOfEachLot() {
        ThresholdRow farm = Farms.withHeap(2, 2);
        Farms.fillHeap(farm, 1);
        farm.measure(0, 0, 0, 's', 9);
        Check.same("the first of another lot", farm.measure(1, 0, 0, 's', 1), 64);
        Check.same("no tithe", farm.account('t'), 0);
        Check.same("the tenth of the first lot", farm.measure(0, 1, 1, 's', 1), 0);
    }

    private static void tithesEnd() {
        ThresholdRow farm = Farms.withHeap(2);
        farm.measure(0, 0, 0, 's', 10);
        farm.judge(0);
        Check.same("no tithe by a court", farm.measure(0, 0, 0, 's', 20), 1280);
        Check.same("but the one that was given", farm.account('t'), 64);
    }

    private static ThresholdRow chaffyHeap(int... winds) {
        ThresholdRow farm = new ThresholdRow();
        farm.addLot(0, 1244, 9);
        farm.hireDrum(1, 1);
        farm.testBoiler();
        farm.fire(0, 1);
        for (int wind : winds) {
            farm.winnow(0, wind);
        }
        return farm;
    }

    private static void chaffAheadOfTheFirstBushel() {
        ThresholdRow tenth = chaffyHeap(6, 6, 4);
        Check.same("chaff", tenth.heapOf(0, 'c'), 30);
        Check.same("grain", tenth.heapOf(0, 'g'), 309);
        Check.same("four bushels, by the chaff ahead of the first", tenth.measure(0, 0, 0, 's', 4), 256);
        Check.unsupported("too much for what is left", () -> tenth.measure(0, 0, 0, 's', 1));
        tenth.winnow(0, 9);
        tenth.setBushel(0, 56);
        Check.unsupported("53 pints are no bushel", () -> tenth.measure(0, 0, 0, 's', 1));
        ThresholdRow more = chaffyHeap(6, 3, 5, 3);
        Check.same("chaff", more.heapOf(0, 'c'), 31);
        Check.unsupported("more than a tenth, cut", () -> more.measure(0, 0, 0, 's', 1));
        more.winnow(0, 1);
        Check.same("less", more.measure(0, 0, 0, 's', 1), 64);
    }

    private static void tooLittleGrain() {
        ThresholdRow farm = chaffyHeap(6, 6, 6);
        farm.setBushel(1, 62);
        farm.setBushel(2, 61);
        String before = Snapshot.of(farm);
        Check.unsupported("310 of 309", () -> farm.measure(0, 0, 1, 's', 5));
        Check.same("nothing changes", Snapshot.of(farm), before);
        Check.same("305", farm.measure(0, 0, 2, 's', 5), 305);
        Check.same("left", farm.heapOf(0, 'g'), 4);
        farm.addLot(0, 10, 0);
        Check.unsupported("an empty heap", () -> farm.measure(1, 0, 0, 's', 1));
        ThresholdRow all = new ThresholdRow();
        all.addHand(1, 0);
        all.addHand(1, 0);
        Farms.stand(all, 0, 1);
        all.addLot(0, 128, 9);
        all.thresh(0, 'c', 99);
        all.winnow(0, 6);
        all.winnow(0, 6);
        all.winnow(0, 6);
        Check.same("the whole heap", all.measure(0, 0, 0, 's', 2), 128);
        Check.same("nothing left", all.heapOf(0, 'g'), 0);
    }

    private static void otherCrops() {
        ThresholdRow farm = Farms.withHeap(2, 1);
        Farms.fillHeap(farm, 1);
        farm.measure(0, 0, 0, 's', 9);
        Check.unsupported("another crop", () -> farm.measure(1, 0, 0, 's', 1));
        farm.measure(1, 1, 0, 's', 9);
        Check.unsupported("another crop, though all is tithe", () -> farm.measure(1, 0, 0, 's', 1));
        farm.judge(3);
        farm.grind(0, 576);
        Check.same("emptied", farm.binOf(0, 'c'), -1);
        Check.same("all is tithe", farm.measure(1, 0, 0, 's', 1), 0);
        Check.same("so it comes first of another crop", farm.measure(1, 0, 0, 's', 1), 64);
        Check.same("crop", farm.binOf(0, 'c'), 1);
    }

    private static void room() {
        ThresholdRow farm = Farms.withHeap(2, 2);
        Farms.fillHeap(farm, 1);
        farm.judge(0);
        farm.setBushel(0, 72);
        farm.setBushel(1, 63);
        farm.measure(0, 0, 0, 's', 99);
        farm.measure(1, 0, 0, 's', 39);
        Check.same("9936", farm.binOf(0, 'g'), 9936);
        Check.unsupported("10000", () -> farm.measure(1, 0, 2, 's', 1));
        Check.same("9999", farm.measure(1, 0, 1, 's', 1), 63);
        Check.unsupported("no more", () -> farm.measure(1, 0, 1, 's', 1));
        Check.same("another bin", farm.measure(1, 1, 1, 's', 1), 63);
        Check.same("sound", farm.isSound(), true);
    }

    private static void titheNeedsNoRoom() {
        ThresholdRow farm = Farms.withHeap(2, 2);
        Farms.fillHeap(farm, 1);
        farm.winnow(0, 6);
        farm.winnow(0, 6);
        farm.winnow(1, 6);
        farm.setBushel(0, 72);
        farm.setBushel(1, 63);
        farm.measure(0, 0, 0, 's', 99);
        farm.measure(1, 0, 0, 's', 53);
        Check.same("90 and 48 bushels", farm.binOf(0, 'g'), 9936);
        Check.unsupported("the 54th of its lot", () -> farm.measure(1, 0, 2, 's', 1));
        Check.same("54th", farm.measure(1, 0, 1, 's', 1), 63);
        Check.same("the hundredth of its lot", farm.measure(0, 0, 0, 's', 1), 0);
        Check.unsupported("the hundred-and-first", () -> farm.measure(0, 0, 0, 's', 1));
    }

    private static void foreignShares() {
        ThresholdRow farm = Farms.withDrum(1, 2);
        farm.fire(0, 9);
        Farms.fillHeap(farm, 1);
        Check.same("foreign", farm.heapOf(1, 'f'), 92);
        Check.same("grain", farm.heapOf(1, 'g'), 9250);
        farm.setBushel(0, 72);
        farm.measure(1, 0, 0, 'h', 2);
        Check.same("81 times 92 by 9250, cut", farm.binOf(0, 'f'), 0);
        farm.measure(1, 0, 0, 's', 97);
        Check.same("one from the 38th bushel on, but six go to the tithe", farm.binOf(0, 'f'), 56);
        Check.same("left", farm.heapOf(1, 'f'), 30);
        Check.same("sound", farm.isSound(), true);
    }

    private static void measuringArguments() {
        ThresholdRow farm = Farms.withHeap(2);
        String before = Snapshot.of(farm);
        Check.index("lot 1", () -> farm.measure(1, 0, 0, 's', 1));
        Check.index("lot -1", () -> farm.measure(-1, 0, 0, 's', 1));
        Check.index("bin 6", () -> farm.measure(0, 6, 0, 's', 1));
        Check.index("bin -1", () -> farm.measure(0, -1, 0, 's', 1));
        Check.index("house 4", () -> farm.measure(0, 0, 4, 's', 1));
        Check.index("house -1, no way", () -> farm.measure(0, 0, -1, 'x', 0));
        Check.argument("no way", () -> farm.measure(0, 0, 0, 'x', 1));
        Check.argument("no bushel", () -> farm.measure(0, 0, 0, 's', 0));
        Check.argument("100 bushels", () -> farm.measure(0, 0, 0, 's', 100));
        Check.same("nothing changes", Snapshot.of(farm), before);
        Check.same("99 bushels", farm.measure(0, 0, 0, 's', 99), 5760);
        Check.argument("no bushel of too few", () -> farm.measure(0, 0, 0, 's', 0));
        Check.unsupported("too few", () -> farm.measure(0, 0, 0, 's', 99));
    }

    private static void binArguments() {
        ThresholdRow farm = new ThresholdRow();
        for (int bin = 0; bin < 6; bin++) {
            Check.same("grain", farm.binOf(bin, 'g'), 0);
            Check.same("bruised", farm.binOf(bin, 'b'), 0);
            Check.same("foreign", farm.binOf(bin, 'f'), 0);
            Check.same("crop", farm.binOf(bin, 'c'), -1);
        }
        Check.index("bin 6", () -> farm.binOf(6, 'g'));
        Check.index("bin -1, no such thing", () -> farm.binOf(-1, 'x'));
        Check.argument("no such thing", () -> farm.binOf(0, 'x'));
    }

    private static void judging() {
        ThresholdRow farm = new ThresholdRow();
        Check.argument("custom -1", () -> farm.judge(-1));
        Check.argument("custom 4", () -> farm.judge(4));
        for (int custom = 0; custom < 4; custom++) {
            Check.same("bound", farm.judge(custom), true);
            Check.same("for good", farm.judge(custom), false);
        }
    }
}
