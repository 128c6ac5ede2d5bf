/** Promises 40 to 44: accounts, checksum, shares and soundness. */
public final class SumsTest {
    private SumsTest() {
    }

    public static void main(String[] args) {
        accounts();
        noSuchAccount();
        checksum();
        bruisedShare();
        meanFatigue();
        Check.finish("SumsTest");
    }

    private static void account(ThresholdRow farm, char what, int want) {
        Check.same("account " + what, farm.account(what), want);
    }

    private static void accounts() {
        ThresholdRow farm = Farms.withDrum(1, 2, 3);
        farm.fire(0, 9);
        farm.fire(1, 8);
        account(farm, 'a', 29997);
        account(farm, 'e', 749 + 999 + 9999);
        account(farm, 'h', 9158 + 92 + 9000 - 90);
        account(farm, 'c', 90);
        farm.cleanDrum();
        account(farm, 'x', 90);
        account(farm, 'c', 0);
        int blown = farm.winnow(0, 9) + farm.winnow(0, 9);
        account(farm, 'w', blown);
        Check.same("blown", blown, 274 + 266);
        farm.measure(0, 0, 0, 's', 20);
        farm.measure(0, 5, 0, 's', 9);
        account(farm, 't', 128);
        account(farm, 'b', 27 * 64);
        account(farm, 'h', 9158 - 540 - 29 * 64 + 92 + 9000 - 90);
        farm.clear(0);
        account(farm, 'g', 374);
        account(farm, 's', 375);
        farm.grind(0, 100);
        account(farm, 'm', 100);
        farm.judge(3);
        farm.sellSeed(0, 200, 1);
        account(farm, 'o', 200);
        farm.addRats(1);
        farm.pass(1);
        account(farm, 'r', 1);
        account(farm, 'b', 27 * 64 - 301);
        farm.addLot(0, 2000, 0);
        farm.setZ(1);
        farm.fire(3, 9);
        account(farm, 'f', 148);
        account(farm, 'a', 31997);
        Check.same("sound", farm.isSound(), true);
    }

    private static void noSuchAccount() {
        ThresholdRow farm = new ThresholdRow();
        for (char what = 0; what < 256; what++) {
            char letter = what;
            if ("aehcbtgswfxrmo".indexOf(what) >= 0) {
                account(farm, what, 0);
            } else {
                Check.argument("account " + (int) what, () -> farm.account(letter));
            }
        }
    }

    private static void checksum() {
        ThresholdRow farm = Farms.withHeap(1, 2);
        farm.measure(0, 0, 0, 's', 9);
        farm.measure(0, 5, 0, 's', 2);
        farm.addHand(5, 3);
        farm.addHand(5, -3);
        for (int hand = 2; hand < 5; hand++) {
            farm.addHand(5, 0);
        }
        Farms.tirePair(farm, 0, 1, 20);
        Farms.stand(farm, 0, 1, 2, 3, 4);
        farm.practise(1);
        farm.pass(7);
        farm.addHand(5, 0);
        farm.setZ(123456789);
        long[] parts = {
            749, 9158 - 704, 592, 9999, 0, 0,
            576, 0, 0, 0, 0, 64,
            0, 0, 0, 1, 0, 0, 0, 0, 0, 0, 0, 0,
            -99, 7, 123456789,
        };
        Check.same("checksum", farm.checksum(), fold(parts));
        farm.practise(3);
        farm.pay(0);
        parts[12] = 6;
        parts[14] = 6;
        parts[16] = 6;
        parts[18] = 6;
        parts[20] = 6;
        Check.same("fatigue in it", farm.checksum(), fold(parts));
    }

    private static long fold(long[] parts) {
        long sum = 7;
        for (long part : parts) {
            sum = 31 * sum + part;
        }
        return sum;
    }

    private static void bruisedShare() {
        ThresholdRow farm = Farms.withHeap(1);
        Check.refuses("no grain in bins", ArithmeticException.class, () -> farm.bruisedShare());
        farm.measure(0, 2, 0, 's', 1);
        Check.same("3 of 64", farm.bruisedShare(), 0.046875f);
        farm.measure(0, 4, 0, 's', 2);
        Check.same("9 of 192", farm.bruisedShare(), 9f / 192f);
        farm.grind(2, 64);
        Check.same("6 of 128", farm.bruisedShare(), 0.046875f);
        farm.grind(4, 7);
        Check.same("6 of 121", farm.bruisedShare(), 6f / 121f);
        farm.grind(4, 120);
        Check.same("1 of 1", farm.bruisedShare(), 1f);
        farm.measure(0, 0, 0, 's', 1);
        Check.same("4 of 65", farm.bruisedShare(), 4f / 65f);
        farm.grind(0, 64);
        farm.grind(4, 1);
        Check.refuses("no more grain", ArithmeticException.class, () -> farm.bruisedShare());
    }

    private static void meanFatigue() {
        ThresholdRow farm = new ThresholdRow();
        Check.refuses("no hands", ArithmeticException.class, () -> farm.meanFatigue());
        farm.addHand(5, 0);
        Check.same("none", farm.meanFatigue(), 0.0);
        farm.addHand(5, 0);
        farm.addHand(5, 0);
        Farms.stand(farm, 0, 1);
        farm.practise(5);
        Check.same("20 by 3", farm.meanFatigue(), 20.0 / 3.0);
    }
}
