/** Promises 12 to 17: lots, threshing, winnowing and clearing. */
public final class LotsTest {
    private LotsTest() {
    }

    public static void main(String[] args) {
        addingLots();
        threshingOnClay();
        threshingOnPlanks();
        dampAndStrength();
        lastPints();
        brokenRoundsFreeNothing();
        threshingArguments();
        winnowing();
        winnowingWhole();
        winnowingArguments();
        clearing();
        clearingWithoutGleaning();
        Check.finish("LotsTest");
    }

    private static void addingLots() {
        ThresholdRow farm = new ThresholdRow();
        String before = Snapshot.of(farm);
        Check.argument("crop -1", () -> farm.addLot(-1, 100, 0));
        Check.argument("crop 4", () -> farm.addLot(4, 100, 0));
        Check.argument("no pints", () -> farm.addLot(0, 0, 0));
        Check.argument("10000 pints", () -> farm.addLot(0, 10000, 0));
        Check.argument("damp -1", () -> farm.addLot(0, 100, -1));
        Check.argument("damp 10", () -> farm.addLot(0, 100, 10));
        Check.same("nothing changes", Snapshot.of(farm), before);
        Check.same("first", farm.addLot(0, 1, 0), 0);
        Check.same("second", farm.addLot(3, 9999, 9), 1);
        for (int lot = 2; lot < 12; lot++) {
            Check.same("lot", farm.addLot(1, 10 * lot, 5), lot);
        }
        Check.state("a 13th", () -> farm.addLot(0, 1, 0));
        Check.argument("a 13th without pints", () -> farm.addLot(0, 0, 0));
        Check.same("ears", farm.ears(0), 1);
        Check.same("ears", farm.ears(1), 9999);
        Check.same("ears", farm.ears(11), 110);
        Check.same("as they came", farm.account('a'), 10650);
        for (char what : "gcbf".toCharArray()) {
            Check.same("heap of " + what, farm.heapOf(1, what), 0);
        }
        Check.index("lot 12", () -> farm.ears(12));
        Check.index("lot -1", () -> farm.ears(-1));
        Check.index("heap of lot 12", () -> farm.heapOf(12, 'g'));
        Check.index("heap of lot -1, no such thing", () -> farm.heapOf(-1, 'x'));
        Check.argument("no such thing", () -> farm.heapOf(0, 'x'));
        Check.argument("nor a large letter", () -> farm.heapOf(0, 'G'));
    }

    private static void threshingOnClay() {
        ThresholdRow farm = Farms.withGang(9, 6);
        farm.addLot(0, 1000, 0);
        Check.same("27 and 17", farm.thresh(0, 'c', 1), 44);
        Check.same("ears", farm.ears(0), 956);
        Check.same("grain", farm.heapOf(0, 'g'), 44);
        Check.same("chaff", farm.heapOf(0, 'c'), 44);
        Check.same("nothing bruised", farm.heapOf(0, 'b'), 0);
        Check.same("nothing foreign", farm.heapOf(0, 'f'), 0);
        Check.same("fatigue", farm.fatigue(1), 2);
        Check.same("25, 16, 24 and 16", farm.thresh(0, 'c', 2), 81);
    }

    private static void threshingOnPlanks() {
        ThresholdRow farm = Farms.withGang(9, 6);
        farm.addLot(0, 1000, 0);
        Check.same("32 and 20", farm.thresh(0, 'p', 1), 52);
        Check.same("bruised by the strong one", farm.heapOf(0, 'b'), 9);
        Check.same("chaff", farm.heapOf(0, 'c'), 52);
        ThresholdRow seven = Farms.withGang(7, 6);
        seven.addLot(0, 9999, 0);
        Check.same("250 and 210", seven.thresh(0, 'p', 1), 460);
        Check.same("of a strength of 7 once", seven.heapOf(0, 'b'), 25);
    }

    private static void dampAndStrength() {
        ThresholdRow farm = Farms.withGang(1, 9);
        farm.addLot(0, 4000, 9);
        farm.addLot(0, 4000, 5);
        Check.same("3 and 26", farm.thresh(0, 'c', 1), 29);
        Check.same("7 and 62", farm.thresh(1, 'c', 1), 69);
    }

    private static void lastPints() {
        ThresholdRow farm = Farms.withGang(1, 1);
        farm.addLot(0, 3, 9);
        Check.same("1 at least", farm.thresh(0, 'c', 1), 2);
        Check.same("never more than there are", farm.thresh(0, 'p', 1), 1);
        Check.same("none", farm.ears(0), 0);
        Check.same("nothing of nothing", farm.thresh(0, 'c', 10), 0);
        Check.same("but the rounds are gone through", farm.fatigue(0), 24);
        Check.same("grain", farm.heapOf(0, 'g'), 3);
    }

    private static void brokenRoundsFreeNothing() {
        ThresholdRow farm = Farms.withHands(5, 3, -3, 0, 0, 3);
        Farms.stand(farm, 0, 1, 2, 3, 4);
        farm.addLot(0, 4000, 8);
        Check.same("the second of two is broken", farm.thresh(0, 'c', 2), 96);
        Check.same("lost", farm.lost(0), 1);
        Check.same("chaff", farm.heapOf(0, 'c'), 96);
        Check.same("fatigue", farm.fatigue(3), 4);
        ThresholdRow fewer = Farms.withHands(5, 3, -3, 0, 0, 0);
        Farms.tirePair(fewer, 0, 1, 30);
        Farms.stand(fewer, 0, 1, 2, 3, 4);
        fewer.addLot(0, 4000, 8);
        Check.same("four go on", fewer.thresh(0, 'c', 2), 77);
        Check.same("hurt", fewer.hurt(1), 7);
    }

    private static void threshingArguments() {
        ThresholdRow farm = Farms.withGang(5, 5);
        farm.addLot(0, 100, 0);
        String before = Snapshot.of(farm);
        Check.index("lot 1", () -> farm.thresh(1, 'c', 1));
        Check.index("lot -1, no floor", () -> farm.thresh(-1, 'x', 0));
        Check.argument("no floor", () -> farm.thresh(0, 'x', 1));
        Check.argument("no round", () -> farm.thresh(0, 'c', 0));
        Check.argument("100 rounds", () -> farm.thresh(0, 'p', 100));
        Check.same("nothing changes", Snapshot.of(farm), before);
        farm.leave(0);
        Check.unsupported("one alone", () -> farm.thresh(0, 'c', 1));
        Check.argument("one alone, no floor", () -> farm.thresh(0, 'x', 1));
        Check.argument("one alone, no round", () -> farm.thresh(0, 'c', 0));
        Check.index("one alone, no lot", () -> farm.thresh(1, 'c', 1));
        Check.same("no day's work alone", farm.owed(1), 0);
        farm.stand(0);
        Check.same("99 rounds", farm.thresh(0, 'c', 99), 100);
    }

    private static void winnowing() {
        ThresholdRow farm = Farms.withDrum(0, 1);
        Check.same("fired", farm.fire(0, 9), 9250);
        Check.same("fired", farm.fire(1, 9), 9250);
        Check.same("a wind of 1", farm.winnow(1, 1), 0);
        Check.same("a tenth of the chaff", farm.heapOf(1, 'c'), 8325);
        Check.same("all grain", farm.heapOf(1, 'g'), 9250);
        Check.same("a wind of 6", farm.winnow(1, 6), 0);
        Check.same("six tenths", farm.heapOf(1, 'c'), 3330);
        Check.same("a wind of 7", farm.winnow(1, 7), 92);
        Check.same("seven tenths", farm.heapOf(1, 'c'), 999);
        Check.same("a hundredth of the grain", farm.heapOf(1, 'g'), 9158);
        Check.same("and of the bruised", farm.heapOf(1, 'b'), 454);
        Check.same("and of the foreign, cut", farm.heapOf(1, 'f'), 92);
        Check.same("a wind of 9", farm.winnow(1, 9), 274);
        Check.same("nine tenths, cut", farm.heapOf(1, 'c'), 100);
        Check.same("grain", farm.heapOf(1, 'g'), 8884);
        Check.same("bruised", farm.heapOf(1, 'b'), 441);
        Check.same("foreign", farm.heapOf(1, 'f'), 90);
        Check.same("blown away", farm.account('w'), 366);
        Check.same("the other heap", farm.heapOf(0, 'c'), 9250);
        Check.same("sound", farm.isSound(), true);
    }

    private static void winnowingWhole() {
        ThresholdRow farm = Farms.withDrum(1, 2, 1);
        farm.fire(0, 9);
        farm.fire(1, 9);
        farm.fire(2, 9);
        farm.fire(1, 1);
        farm.winnow(0, 7);
        farm.winnow(0, 7);
        farm.winnow(0, 8);
        Check.same("458, 454, 450 and two hundredths of it", farm.heapOf(0, 'b'), 441);
        Check.same("carried to it twice", farm.heapOf(1, 'f'), 184);
        for (int wind : new int[] {9, 9, 8, 8, 9}) {
            farm.winnow(1, wind);
        }
        Check.same("184, 179, 174, 171, 168 and three hundredths of it", farm.heapOf(1, 'f'), 163);
    }

    private static void winnowingArguments() {
        ThresholdRow farm = Farms.withHeap(0);
        String before = Snapshot.of(farm);
        Check.index("lot 1", () -> farm.winnow(1, 5));
        Check.index("lot -1, no wind", () -> farm.winnow(-1, 0));
        Check.argument("no wind", () -> farm.winnow(0, 0));
        Check.argument("a storm", () -> farm.winnow(0, 10));
        Check.same("nothing changes", Snapshot.of(farm), before);
        farm.addLot(0, 10, 0);
        Check.same("an empty heap", farm.winnow(1, 9), 0);
    }

    private static void clearing() {
        ThresholdRow farm = Farms.withGang(5, 5);
        farm.addLot(0, 5, 0);
        farm.addLot(0, 8, 0);
        Check.index("lot 2", () -> farm.clear(2));
        Check.index("lot -1", () -> farm.clear(-1));
        Check.same("half of 5", farm.clear(0), 2);
        Check.same("ears", farm.ears(0), 0);
        Check.same("gleaned", farm.account('g'), 2);
        Check.same("straw", farm.account('s'), 3);
        Check.unsupported("again", () -> farm.clear(0));
        Check.same("half of 8", farm.clear(1), 4);
        Check.same("gleaned", farm.account('g'), 6);
        Check.same("straw", farm.account('s'), 7);
        Check.same("nothing is in the ears", farm.thresh(0, 'c', 1), 0);
        farm.addLot(0, 2, 0);
        farm.thresh(2, 'c', 1);
        Check.same("empty ears", farm.clear(2), 0);
        Check.unsupported("that was the once", () -> farm.clear(2));
        Check.same("sound", farm.isSound(), true);
    }

    private static void clearingWithoutGleaning() {
        ThresholdRow farm = new ThresholdRow();
        farm.addLot(0, 9, 0);
        farm.judge(1);
        Check.same("no gleaning", farm.clear(0), 0);
        Check.same("gleaned", farm.account('g'), 0);
        Check.same("all straw", farm.account('s'), 9);
    }
}
