import java.util.NoSuchElementException;

/** The edges that the sentences of "Terms" name, paragraph by paragraph: empty, full, the least, the most, around. */
public final class EdgesTest {
    private EdgesTest() {
    }

    public static void main(String[] args) {
        placesOfTheRound();
        twentiethsOfFatigue();
        lastAndFirst();
        threeBecomeTwo();
        hurtAndFull();
        roundsOnEmptyEars();
        allRoundsBroken();
        leastThatIsFreed();
        leastThatIsBruised();
        leastThatIsBlownAway();
        hundredthsOfEach();
        leastLotsCleared();
        drumWithEmptyEars();
        leastThatTheDrumParts();
        sparkOnEmptyEars();
        wholeHeapInABushel();
        binsEmptiedByEachWay();
        mostWages();
        fewestAndMostRats();
        allFlour();
        fullFarmsSums();
        lastCall();
        Check.finish("EdgesTest");
    }

    private static void placesOfTheRound() {
        for (int count = 1; count <= 5; count++) {
            ThresholdRow farm = Farms.withGang(1, 2, 3, 4, 5);
            for (int hand = 4; hand >= count; hand--) {
                Check.same("as many stand", farm.leave(hand), hand);
            }
            for (int hand = 0; hand < count; hand++) {
                Check.same("place " + hand + " of " + count, farm.strokeOf(hand), 60 * hand / count);
            }
            for (int hand = 0; hand < count; hand++) {
                Check.same("the first leaves", farm.leave(hand), count - 1 - hand);
            }
            Check.same("the first of an empty gang", farm.stand(4), 1);
            Check.same("its place", farm.placeOf(4), 0);
            Check.same("its stroke", farm.strokeOf(4), 0);
        }
    }

    private static ThresholdRow tired(int rounds, int... habits) {
        ThresholdRow farm = Farms.withHands(5, habits);
        Farms.tirePair(farm, 0, 1, rounds);
        return farm;
    }

    private static int firstError(int rounds, int habit) {
        ThresholdRow farm = tired(rounds, habit, 0);
        Farms.stand(farm, 0, 1);
        farm.practise(1);
        return farm.errorOf(0);
    }

    private static void twentiethsOfFatigue() {
        Check.same("of 0", firstError(1, 3), 3);
        Check.same("of 18", firstError(9, 3), 3);
        Check.same("of 20", firstError(10, 3), 4);
        Check.same("of 38", firstError(19, 3), 4);
        Check.same("of 40", firstError(20, -3), -5);
        Check.same("of 58", firstError(29, -3), -5);
        Check.same("of 78", firstError(39, 1), 4);
        Check.same("of 98", firstError(49, -1), -5);
        Check.same("of 100", firstError(50, -1), -6);
        Check.same("of 100, the most", firstError(99, 2), 7);
        Check.same("of 100, without a habit", firstError(50, 0), 0);
    }

    private static void lastAndFirst() {
        ThresholdRow over = tired(50, 3, -3, 0, 0, 0);
        Farms.stand(over, 1, 2, 3, 4, 0);
        Check.same("the first one's falls ahead of the last one's", over.practise(1), 0);
        Check.same("like ones: the second one", over.lost(1), 1);
        Check.same("is hurt", over.hurt(1), 7);
        Check.same("the last", over.lost(0), 0);
        ThresholdRow twice = tired(20, -3, 3, -3, 3, 0);
        Farms.tirePair(twice, 2, 3, 20);
        Farms.stand(twice, 0, 4, 1, 2, 3);
        Check.same("two pairs, the last and the first being one", twice.practise(1), 0);
        Check.same("the other one comes first", twice.lost(2), 1);
        Check.same("the last and the first come last", twice.lost(0), 0);
    }

    /** A gang of three whose second round is lost by hand 0, which is hurt then. */
    private static ThresholdRow wornThree() {
        ThresholdRow farm = tired(40, 3, -3, 0);
        farm.addLot(0, 4000, 4);
        Farms.stand(farm, 0, 1, 2);
        return farm;
    }

    private static void threeBecomeTwo() {
        ThresholdRow farm = wornThree();
        farm.hire(0, 'd', 12);
        Check.same("40, 39, 39, none, 38 and 38", farm.thresh(0, 'c', 3), 194);
        Check.same("lost", farm.lost(0), 1);
        Check.same("hurt", farm.hurt(0), 7);
        Check.refuses("stands no more", NoSuchElementException.class, () -> farm.errorOf(0));
        Check.same("fatigue of two rounds", farm.fatigue(0), 84);
        Check.same("fatigue of three", farm.fatigue(2), 6);
        Check.same("but who stood as it began has the day's work", farm.owed(0), 13);
        Check.same("two strokes", farm.strokeOf(2) - farm.errorOf(2), 30);
        Check.same("unbroken ones", wornThree().practise(3), 2);
        Check.same("two go on to the end", wornThree().practise(99), 98);
        Check.same("sound", farm.isSound(), true);
    }

    private static void hurtAndFull() {
        ThresholdRow farm = Farms.withHands(5, 3, -3, 0, 0, 0, 0, 0);
        Farms.tirePair(farm, 0, 1, 40);
        Farms.stand(farm, 0, 1, 2);
        farm.practise(2);
        Check.same("1 and 2, and three more", farm.stand(3), 3);
        farm.stand(4);
        farm.stand(5);
        Check.unsupported("hurt, and five stand", () -> farm.stand(0));
        Check.state("well, but five stand", () -> farm.stand(6));
        farm.pass(7);
        Check.state("well again, but five stand", () -> farm.stand(0));
        farm.pass(1);
        Check.same("hurt stays 0", farm.hurt(0), 0);
        Check.same("fatigue stays 0", farm.fatigue(6), 0);
    }

    private static void roundsOnEmptyEars() {
        ThresholdRow farm = wornThree();
        farm.clear(0);
        Check.same("nothing", farm.thresh(0, 'p', 10), 0);
        Check.same("rounds break there, too", farm.lost(0), 1);
        Check.same("and go on", farm.fatigue(2), 20);
        Check.same("a day's work", farm.owed(2), 1);
        Check.same("grain", farm.heapOf(0, 'g') + farm.heapOf(0, 'c') + farm.heapOf(0, 'b'), 0);
    }

    private static void allRoundsBroken() {
        ThresholdRow farm = tired(20, 3, -3, 0, 0, 0);
        farm.addLot(0, 4000, 0);
        Farms.stand(farm, 0, 1, 2, 3, 4);
        Check.same("broken", farm.thresh(0, 'c', 1), 0);
        Check.same("ears", farm.ears(0), 4000);
        Check.same("fatigue", farm.fatigue(4), 2);
        Check.same("a day's work", farm.owed(1), 1);
        Check.same("no heap", farm.heapOf(0, 'g') + farm.heapOf(0, 'c'), 0);
    }

    private static void freed(int pints, int damp, char floor, int due, int... strengths) {
        ThresholdRow farm = Farms.withGang(strengths);
        farm.addLot(0, pints, damp);
        Check.same(pints + " pints on " + floor, farm.thresh(0, floor, 1), due);
        Check.same("ears", farm.ears(0), pints - due);
        Check.same("chaff", farm.heapOf(0, 'c'), due);
    }

    private static void leastThatIsFreed() {
        freed(1, 0, 'c', 1, 9, 9, 9);
        freed(2, 9, 'c', 2, 1, 1, 1);
        freed(2, 9, 'p', 2, 1, 1, 1);
        freed(3, 9, 'c', 3, 1, 1, 1);
        freed(666, 9, 'c', 2, 1, 1);
        freed(1334, 9, 'c', 2, 1, 1);
        freed(2667, 9, 'c', 3, 1, 1);
        freed(2668, 9, 'c', 3, 1, 1);
        freed(2669, 9, 'c', 4, 1, 1);
        freed(9999, 0, 'c', 269 + 262, 9, 9);
        freed(9999, 0, 'p', 322 + 313, 9, 9);
        freed(6664, 9, 'p', 4 + 4, 1, 1);
        freed(6667, 9, 'p', 6 + 4, 1, 1);
    }

    private static int bruised(int pints, char floor, int strength) {
        ThresholdRow farm = Farms.withGang(strength, 1);
        farm.addLot(0, pints, 0);
        farm.thresh(0, floor, 1);
        return farm.heapOf(0, 'b');
    }

    private static void leastThatIsBruised() {
        Check.same("of 9", bruised(400, 'p', 7), 0);
        Check.same("of 10", bruised(429, 'p', 7), 1);
        Check.same("of a strength of 6", bruised(9999, 'p', 6), 0);
        Check.same("of a strength of 8: a tenth, cut, twice", bruised(9999, 'p', 8), 56);
        Check.same("of a strength of 9: thrice", bruised(9999, 'p', 9), 96);
        Check.same("on clay", bruised(9999, 'c', 9), 0);
    }

    /** A heap of so many pints with as much chaff, of a lot that has no more. */
    private static ThresholdRow heapOf(int pints) {
        ThresholdRow farm = Farms.withGang(6, 6);
        farm.addLot(0, pints, 9);
        farm.thresh(0, 'c', 99);
        Check.same("all", farm.heapOf(0, 'g'), pints);
        return farm;
    }

    private static void leastThatIsBlownAway() {
        ThresholdRow one = heapOf(1);
        Check.same("nine tenths of 1", one.winnow(0, 9), 0);
        Check.same("chaff", one.heapOf(0, 'c'), 1);
        Check.same("grain", one.heapOf(0, 'g'), 1);
        ThresholdRow two = heapOf(2);
        two.winnow(0, 4);
        Check.same("four tenths of 2", two.heapOf(0, 'c'), 2);
        two.winnow(0, 5);
        Check.same("five tenths of 2", two.heapOf(0, 'c'), 1);
        Check.same("three hundredths of 33", heapOf(33).winnow(0, 9), 0);
        Check.same("three hundredths of 34", heapOf(34).winnow(0, 9), 1);
        Check.same("two hundredths of 49", heapOf(49).winnow(0, 8), 0);
        Check.same("two hundredths of 50", heapOf(50).winnow(0, 8), 1);
        Check.same("a hundredth of 99", heapOf(99).winnow(0, 7), 0);
        Check.same("a hundredth of 100", heapOf(100).winnow(0, 7), 1);
        Check.same("a wind of 6 blows nothing away", heapOf(190).winnow(0, 6), 0);
    }

    private static void hundredthsOfEach() {
        ThresholdRow farm = new ThresholdRow();
        farm.addLot(1, 3600, 9);
        farm.addLot(2, 2000, 9);
        farm.hireDrum(1, 1);
        farm.testBoiler();
        farm.fire(0, 9);
        Check.same("carried", farm.carried(), 33);
        farm.fire(1, 9);
        Check.same("foreign", farm.heapOf(1, 'f'), 33);
        farm.winnow(1, 9);
        Check.same("three hundredths of 33", farm.heapOf(1, 'f'), 33);
        ThresholdRow bruised = Farms.withHeap(0);
        for (int times = 0; times < 15; times++) {
            bruised.winnow(0, 7);
        }
        Check.same("a hundredth of 458 to 402", bruised.heapOf(0, 'b'), 398);
        bruised.winnow(0, 7);
        Check.same("a hundredth of 398", bruised.heapOf(0, 'b'), 395);
    }

    private static void leastLotsCleared() {
        ThresholdRow farm = new ThresholdRow();
        farm.addLot(0, 1, 0);
        farm.addLot(0, 2, 0);
        farm.addLot(0, 9999, 0);
        Check.same("half of 1", farm.clear(0), 0);
        Check.same("straw", farm.account('s'), 1);
        Check.same("half of 2", farm.clear(1), 1);
        Check.same("straw", farm.account('s'), 2);
        Check.same("half of 9999", farm.clear(2), 4999);
        Check.same("straw", farm.account('s'), 5002);
        Check.same("ears", farm.account('e'), 0);
        Check.same("sound", farm.isSound(), true);
    }

    private static void drumWithEmptyEars() {
        ThresholdRow farm = Farms.withDrum(1, 2);
        farm.fire(0, 1);
        farm.clear(1);
        Check.same("nothing is freed", farm.fire(1, 9), 0);
        Check.same("what it carried", farm.heapOf(1, 'g'), 25);
        Check.same("without chaff", farm.heapOf(1, 'c'), 0);
        Check.same("foreign", farm.heapOf(1, 'f'), 25);
        Check.same("carries nothing more", farm.carried(), 0);
        Check.same("z went on", farm.setZ(1), 182605794);
        Check.same("again", farm.fire(1, 1), 0);
        Check.same("nothing came", farm.heapOf(1, 'g'), 25);
        Check.same("sound", farm.isSound(), true);
    }

    private static ThresholdRow fired(int pints, int hours) {
        ThresholdRow farm = new ThresholdRow();
        farm.addLot(0, pints, 9);
        farm.hireDrum(1, 1);
        farm.testBoiler();
        farm.fire(0, hours);
        return farm;
    }

    private static void leastThatTheDrumParts() {
        Check.same("1 of 1", fired(1, 1).heapOf(0, 'g'), 1);
        Check.same("no more than 1", fired(1, 9).heapOf(0, 'g'), 1);
        Check.same("ears", fired(1, 9).ears(0), 0);
        Check.same("a fourth of 3 and 1", fired(3, 1).ears(0), 2);
        Check.same("a fourth of 4 and 1", fired(4, 1).ears(0), 2);
        Check.same("99 freed", fired(395, 1).carried(), 0);
        Check.same("all on the heap", fired(395, 1).heapOf(0, 'g'), 99);
        Check.same("100 freed", fired(396, 1).carried(), 1);
        Check.same("but 1", fired(396, 1).heapOf(0, 'g'), 99);
        Check.same("56 and 42, of this firing", fired(220, 2).carried(), 0);
        Check.same("57 and 43, of this firing", fired(225, 2).carried(), 1);
        Check.same("a twentieth of 19", fired(75, 1).heapOf(0, 'b'), 0);
        Check.same("a twentieth of 20", fired(76, 1).heapOf(0, 'b'), 1);
        Check.same("of each hour: 20, 15", fired(76, 2).heapOf(0, 'b'), 1);
    }

    private static void sparkOnEmptyEars() {
        ThresholdRow farm = new ThresholdRow();
        farm.addLot(0, 100, 0);
        farm.hireDrum(2, 1);
        farm.testBoiler();
        farm.clear(0);
        Check.same("71 is below 81", farm.fire(0, 9), 0);
        Check.same("nothing to burn", farm.account('f'), 0);
        farm.addLot(0, 100, 8);
        farm.setZ(1);
        farm.fire(1, 9);
        Check.same("71 is not below 9", farm.account('f'), 0);
        farm.setZ(1);
        farm.addLot(0, 5, 0);
        Check.same("all are freed", farm.fire(2, 9), 5);
        Check.same("so none are burnt", farm.account('f'), 0);
        Check.same("sound", farm.isSound(), true);
    }

    private static void wholeHeapInABushel() {
        ThresholdRow farm = Farms.withHeap(1);
        farm.judge(0);
        for (int times = 0; times < 6; times++) {
            farm.winnow(0, 6);
        }
        farm.setBushel(0, 72);
        farm.setBushel(1, 71);
        farm.measure(0, 0, 0, 's', 77);
        farm.measure(0, 0, 1, 's', 50);
        int bruised = farm.heapOf(0, 'b');
        Check.same("a bushel is left", farm.heapOf(0, 'g'), 64);
        Check.same("with bruised grain", bruised > 0, true);
        Check.same("no more than there is", farm.binOf(0, 'b') + bruised, 458);
        Check.unsupported("a pint too much", () -> farm.measure(0, 1, 3, 'k', 1));
        Check.same("the whole heap", farm.measure(0, 1, 2, 's', 1), 64);
        Check.same("all bruised grain goes", farm.binOf(1, 'b'), bruised);
        Check.same("none is left", farm.heapOf(0, 'g') + farm.heapOf(0, 'b'), 0);
        Check.same("sound", farm.isSound(), true);
    }

    private static void emptied(String how, ThresholdRow farm) {
        Check.same(how + ": grain", farm.binOf(0, 'g'), 0);
        Check.same(how + ": crop", farm.binOf(0, 'c'), -1);
        Check.same(how + ": bruised", farm.binOf(0, 'b'), 0);
        Check.same(how + ": foreign", farm.binOf(0, 'f'), 0);
        Check.same(how + ": another crop comes", farm.measure(1, 0, 0, 's', 1), 64);
        Check.same(how + ": crop", farm.binOf(0, 'c'), 3);
        Check.same(how + ": sound", farm.isSound(), true);
    }

    /** A bushel of sound grain of the crop 0 in bin 0, and a heap of another crop. */
    private static ThresholdRow withBushel() {
        ThresholdRow farm = Farms.withGang(6, 6, 6, 6, 6);
        farm.addLot(0, 700, 0);
        farm.addLot(3, 9999, 0);
        Farms.threshWhole(farm, 0);
        Farms.threshWhole(farm, 1);
        Check.same("came", farm.measure(0, 0, 0, 's', 1), 64);
        Check.unsupported("has a crop", () -> farm.measure(1, 0, 0, 's', 1));
        return farm;
    }

    private static void binsEmptiedByEachWay() {
        ThresholdRow ground = withBushel();
        ground.grind(0, 63);
        Check.unsupported("a pint has a crop", () -> ground.measure(1, 0, 0, 's', 1));
        ground.grind(0, 1);
        emptied("ground", ground);
        ThresholdRow sold = withBushel();
        sold.sellSeed(0, 64, 9);
        emptied("sold", sold);
        ThresholdRow eaten = withBushel();
        for (int times = 0; times < 7; times++) {
            eaten.addRats(99);
        }
        eaten.pass(1);
        Check.same("693 rats had not enough", eaten.rats(), 520);
        emptied("eaten", eaten);
        Check.same("eaten", eaten.account('r'), 64);
    }

    private static void mostWages() {
        ThresholdRow farm = Farms.withHeap(0);
        farm.winnow(0, 6);
        farm.addHand(1, 0);
        farm.addHand(1, 0);
        farm.stand(0);
        farm.stand(1);
        farm.hire(0, 'm', 99);
        farm.hire(1, 'm', 1);
        farm.measure(0, 0, 0, 's', 99);
        Check.same("99 times 99", farm.owed(0), 9801);
        Check.same("99 times 1", farm.owed(1), 99);
        Check.same("for the winter, too", farm.hire(0, 'w', 99), 9900);
        farm.measure(0, 0, 0, 's', 1);
        Check.same("by the bushel no more", farm.owed(0), 9900);
        Check.same("the other one still", farm.owed(1), 100);
        farm.leave(1);
        farm.measure(0, 0, 0, 's', 1);
        Check.same("one who left", farm.owed(1), 100);
    }

    private static ThresholdRow fed(int rats, int owls) {
        ThresholdRow farm = Farms.withFullBin();
        for (int left = rats; left > 0; left -= 99) {
            farm.addRats(Math.min(left, 99));
        }
        for (int owl = 0; owl < owls; owl++) {
            farm.addOwl();
        }
        farm.pass(1);
        return farm;
    }

    private static void fewestAndMostRats() {
        Check.same("1 eats 1", fed(1, 0).account('r'), 1);
        Check.same("1 and 1", fed(1, 0).rats(), 2);
        Check.same("2 less 2", fed(1, 1).rats(), 0);
        Check.same("20 less 18", fed(18, 9).rats(), 2);
        Check.same("17 less 18", fed(15, 9).rats(), 0);
        Check.same("908 and 90 and 1", fed(908, 0).rats(), 999);
        Check.same("909 and 90 and 1", fed(909, 0).rats(), 999);
        Check.same("918 and 91 and 1, less 18", fed(918, 9).rats(), 992);
        Check.same("999 at most behind the owls", fed(999, 9).rats(), 999);
        Check.same("999 eat 100", fed(999, 9).account('r'), 100);
        ThresholdRow none = fed(0, 9);
        Check.same("no rats", none.rats(), 0);
        Check.same("eat nothing", none.account('r'), 0);
        ThresholdRow hungry = new ThresholdRow();
        hungry.addRats(1);
        hungry.pass(99);
        Check.same("a fourth of 1 is none", hungry.rats(), 1);
        Check.same("full: no more come", fullOfRats().addRats(99), 999);
        Check.same("999 less 249", starved().rats(), 750);
    }

    private static ThresholdRow fullOfRats() {
        ThresholdRow farm = new ThresholdRow();
        for (int times = 0; times < 11; times++) {
            farm.addRats(99);
        }
        Check.same("as many", farm.rats(), 999);
        return farm;
    }

    private static ThresholdRow starved() {
        ThresholdRow farm = fullOfRats();
        farm.pass(1);
        return farm;
    }

    private static void allFlour() {
        ThresholdRow farm = Farms.withFullBin();
        Check.same("sold, all but 15 pints", farm.sellSeed(0, 9984, 9), 9 * 9984);
        Check.same("180 ounces", farm.grind(0, 15), 180);
        Check.unsupported("no more grain", () -> farm.grind(0, 1));
        Check.unsupported("181 of 180", () -> farm.bake(1, 11));
        Check.unsupported("190 of 180", () -> farm.bake(19, 200));
        Check.same("all of it", farm.bake(18, 200), 10);
        Check.same("none is left", farm.flour(), 0);
        Check.unsupported("an empty chest", () -> farm.bake(1, 200));
        Check.same("money", farm.money(), 9 * 9984 + 18);
    }

    private static void fullFarmsSums() {
        ThresholdRow farm = Farms.withFullBin();
        for (int lot = 2; lot < 12; lot++) {
            farm.addLot(3, 9999 - lot, 0);
        }
        for (int hand = 5; hand < 8; hand++) {
            farm.addHand(9, 3);
        }
        farm.setZ(2147483646);
        farm.hireDrum(99, 99);
        farm.pass(1);
        long sum = 7;
        int left = 9999 - 39 * 72 - 63;
        long[] heaps = {9999 - 99 * 72, 640, left, 640};
        for (int lot = 0; lot < 12; lot++) {
            sum = 31 * sum + (lot < 2 ? 0 : 9999 - lot);
            sum = 31 * sum + (lot < 2 ? heaps[2 * lot] : 0);
            sum = 31 * sum + (lot < 2 ? heaps[2 * lot + 1] : 0);
        }
        sum = (31 * sum + 9999) * 31 * 31 * 31 * 31 * 31;
        for (int hand = 0; hand < 8; hand++) {
            sum = 31 * sum + (hand < 5 ? 70 : 0);
            sum = 31 * sum;
        }
        sum = (31 * sum - 9801) * 31 + 1;
        Check.same("checksum, around the end of long", farm.checksum(), 31 * sum + 2147483646);
        Check.same("350 by 8", farm.meanFatigue(), 43.75);
        Check.same("nothing bruised", farm.bruisedShare(), 0f);
        Check.same("as they came", farm.account('a'), 12 * 9999 - 65);
        Check.same("in ears", farm.account('e'), 10 * 9999 - 65);
        Check.same("on heaps", farm.account('h'), heaps[0] + heaps[2]);
        Check.same("in bins", farm.account('b'), 9999);
        Check.same("sound", farm.isSound(), true);
    }

    /** "An object is used for at most 512 calls": the 512th is still one that answers. */
    private static void lastCall() {
        ThresholdRow farm = new ThresholdRow();
        for (int call = 1; call <= 511; call++) {
            Check.same("call " + call, farm.setZ(call + 1), call);
        }
        Check.same("call 512", farm.setZ(1), 512);
    }
}
