/** Farms that several tests begin with. */
final class Farms {
    private Farms() {
    }

    /** Hands of these habits and of one strength, none in the gang. */
    static ThresholdRow withHands(int strength, int... habits) {
        ThresholdRow farm = new ThresholdRow();
        for (int habit : habits) {
            farm.addHand(strength, habit);
        }
        return farm;
    }

    /** Hands of these strengths without a habit, all in the gang. */
    static ThresholdRow withGang(int... strengths) {
        ThresholdRow farm = new ThresholdRow();
        for (int hand = 0; hand < strengths.length; hand++) {
            farm.addHand(strengths[hand], 0);
            farm.stand(hand);
        }
        return farm;
    }

    static void stand(ThresholdRow farm, int... hands) {
        for (int hand : hands) {
            farm.stand(hand);
        }
    }

    static void leave(ThresholdRow farm, int... hands) {
        for (int hand : hands) {
            farm.leave(hand);
        }
    }

    /** Two of whom each has a fatigue of twice the rounds: a gang of two never loses a beat. */
    static void tirePair(ThresholdRow farm, int one, int other, int rounds) {
        stand(farm, one, other);
        farm.practise(rounds);
        leave(farm, one, other);
    }

    /** A drum that is hired and tested; a damp of 9 keeps all lots from burning. */
    static ThresholdRow withDrum(int... crops) {
        ThresholdRow farm = new ThresholdRow();
        for (int crop : crops) {
            farm.addLot(crop, 9999, 9);
        }
        farm.hireDrum(99, 1);
        farm.testBoiler();
        return farm;
    }

    /**
     * Lots of 9999 pints, the first one's heap with 9158 grain, 458 of it bruised, none foreign, and a chaff of 592:
     * nine hours free 9250, of which 92 are cleaned out of the drum.
     */
    static ThresholdRow withHeap(int... crops) {
        ThresholdRow farm = withDrum(crops);
        fillHeap(farm, 0);
        return farm;
    }

    static void fillHeap(ThresholdRow farm, int lot) {
        farm.fire(lot, 9);
        farm.cleanDrum();
        for (int times = 0; times < 3; times++) {
            farm.winnow(lot, 6);
        }
    }

    /** A lot whose 9999 pints all lie on its heap: sound, of its own crop, with little chaff. */
    static void threshWhole(ThresholdRow farm, int lot) {
        farm.thresh(lot, 'c', 99);
        for (int times = 0; times < 3; times++) {
            farm.winnow(lot, 6);
        }
    }

    /** Bin 0 with 9999 pints, all sound and of one crop; custom 0 binds no more. */
    static ThresholdRow withFullBin() {
        ThresholdRow farm = withGang(6, 6, 6, 6, 6);
        farm.judge(0);
        farm.addLot(2, 9999, 0);
        farm.addLot(2, 9999, 0);
        threshWhole(farm, 0);
        threshWhole(farm, 1);
        farm.setBushel(0, 72);
        farm.measure(0, 0, 0, 's', 99);
        farm.measure(1, 0, 0, 's', 39);
        farm.setBushel(0, 63);
        farm.measure(1, 0, 0, 's', 1);
        return farm;
    }
}
