/** Promises 31 to 34: rats, owls and days. */
public final class RatsTest {
    private RatsTest() {
    }

    public static void main(String[] args) {
        addingRats();
        addingOwls();
        ratsThrive();
        ratsStarve();
        owlsHunt();
        ratsHaveALimit();
        fullestBin();
        lastGrain();
        bruisedAndForeign();
        passing();
        lastDay();
        Check.finish("RatsTest");
    }

    private static void addingRats() {
        ThresholdRow farm = new ThresholdRow();
        Check.same("none", farm.rats(), 0);
        Check.argument("0 rats", () -> farm.addRats(0));
        Check.argument("100 rats", () -> farm.addRats(100));
        Check.same("none came", farm.rats(), 0);
        for (int times = 1; times <= 10; times++) {
            Check.same("99 more", farm.addRats(99), 99 * times);
        }
        Check.same("990", farm.rats(), 990);
        Check.same("999 at most", farm.addRats(10), 999);
        Check.same("as many", farm.rats(), 999);
        Check.same("one", new ThresholdRow().addRats(1), 1);
    }

    private static void addingOwls() {
        ThresholdRow farm = new ThresholdRow();
        for (int owl = 1; owl <= 9; owl++) {
            Check.same("owl", farm.addOwl(), owl);
        }
        Check.state("a tenth", () -> farm.addOwl());
        Check.state("and again", () -> farm.addOwl());
    }

    private static void ratsThrive() {
        ThresholdRow farm = Farms.withHeap(0);
        farm.measure(0, 3, 0, 's', 9);
        farm.pass(1);
        Check.same("no rats eat nothing", farm.account('r'), 0);
        Check.same("and come from nowhere", farm.rats(), 0);
        farm.addRats(9);
        farm.pass(1);
        Check.same("9 rats eat 1", farm.binOf(3, 'g'), 575);
        Check.same("and are 10", farm.rats(), 10);
        farm.pass(1);
        Check.same("10 rats eat 2", farm.binOf(3, 'g'), 573);
        Check.same("and are 12", farm.rats(), 12);
        Check.same("eaten", farm.account('r'), 3);
        farm.pass(2);
        Check.same("12 and 14 rats eat 4", farm.account('r'), 7);
        Check.same("and are 16", farm.rats(), 16);
        Check.same("sound", farm.isSound(), true);
    }

    private static void ratsStarve() {
        ThresholdRow farm = new ThresholdRow();
        farm.addRats(11);
        farm.pass(1);
        Check.same("a fourth fewer, cut", farm.rats(), 9);
        farm.pass(3);
        Check.same("9, 7, 6, 5", farm.rats(), 5);
        farm.pass(9);
        Check.same("a fourth of 3 is none", farm.rats(), 3);
        Check.same("nothing eaten", farm.account('r'), 0);
        Check.same("an empty bin has no crop", farm.binOf(0, 'c'), -1);
    }

    private static void owlsHunt() {
        ThresholdRow farm = new ThresholdRow();
        farm.addRats(40);
        farm.addOwl();
        farm.addOwl();
        farm.addOwl();
        farm.pass(1);
        Check.same("40, 30, 24", farm.rats(), 24);
        farm.pass(2);
        Check.same("18 - 6, 9 - 6", farm.rats(), 3);
        farm.pass(1);
        Check.same("0 at least", farm.rats(), 0);
        farm.pass(1);
        Check.same("none", farm.rats(), 0);
        ThresholdRow fed = Farms.withHeap(0);
        fed.measure(0, 0, 0, 's', 9);
        fed.addOwl();
        fed.addRats(50);
        fed.pass(1);
        Check.same("50, 56, 54", fed.rats(), 54);
    }

    private static void ratsHaveALimit() {
        ThresholdRow farm = Farms.withHeap(0);
        farm.measure(0, 0, 0, 's', 99);
        for (int times = 0; times < 11; times++) {
            farm.addRats(99);
        }
        farm.addOwl();
        farm.pass(1);
        Check.same("999 behind the owl", farm.rats(), 999);
        Check.same("999 rats eat 100", farm.account('r'), 100);
    }

    private static void fullestBin() {
        ThresholdRow farm = Farms.withHeap(0);
        farm.measure(0, 1, 0, 's', 1);
        farm.measure(0, 4, 0, 's', 2);
        farm.measure(0, 5, 0, 's', 2);
        farm.addRats(9);
        farm.pass(1);
        Check.same("the lowest of like ones", farm.binOf(4, 'g'), 127);
        Check.same("not the other one", farm.binOf(5, 'g'), 128);
        farm.pass(1);
        Check.same("now that has the most", farm.binOf(5, 'g'), 126);
        Check.same("and not the first", farm.binOf(4, 'g'), 127);
        Check.same("nor the least", farm.binOf(1, 'g'), 64);
        for (int bin = 0; bin < 6; bin++) {
            ratsFind(bin);
        }
    }

    private static void ratsFind(int bin) {
        ThresholdRow farm = Farms.withHeap(0);
        farm.measure(0, bin, 0, 's', 1);
        farm.addRats(1);
        farm.pass(1);
        Check.same("the bin with grain", farm.binOf(bin, 'g'), 63);
    }

    private static void lastGrain() {
        ThresholdRow farm = Farms.withHeap(1);
        farm.measure(0, 2, 0, 's', 1);
        farm.grind(2, 61);
        farm.addRats(20);
        farm.pass(1);
        Check.same("just enough", farm.rats(), 23);
        Check.same("the bin is empty", farm.binOf(2, 'g'), 0);
        Check.same("without a crop", farm.binOf(2, 'c'), -1);
        Check.same("without bruised grain", farm.binOf(2, 'b'), 0);
        farm.measure(0, 2, 0, 's', 1);
        farm.grind(2, 62);
        farm.pass(1);
        Check.same("2 for 3: a fourth fewer", farm.rats(), 18);
        Check.same("at most all of it", farm.account('r'), 5);
        Check.same("sound", farm.isSound(), true);
    }

    private static void bruisedAndForeign() {
        ThresholdRow farm = Farms.withDrum(1, 2);
        farm.fire(0, 9);
        Farms.fillHeap(farm, 1);
        farm.measure(1, 0, 0, 's', 99);
        farm.judge(3);
        int bruised = farm.binOf(0, 'b');
        int foreign = farm.binOf(0, 'f');
        Check.same("bruised", bruised > 100, true);
        Check.same("foreign", foreign > 10, true);
        farm.sellSeed(0, farm.binOf(0, 'g') - bruised, 1);
        Check.same("only bruised grain is left", farm.binOf(0, 'g'), bruised);
        farm.addRats(99);
        farm.pass(1);
        Check.same("at most all that is left", farm.binOf(0, 'b'), bruised - 10);
        Check.same("foreign as it was", farm.binOf(0, 'f'), foreign);
        farm.grind(0, bruised - 10 - foreign);
        Check.same("as much as foreign", farm.binOf(0, 'g'), foreign);
        farm.pass(1);
        Check.same("foreign at most all that is left", farm.binOf(0, 'f'), foreign - 11);
        Check.same("bruised, too", farm.binOf(0, 'b'), foreign - 11);
        Check.same("sound", farm.isSound(), true);
    }

    private static void passing() {
        ThresholdRow farm = new ThresholdRow();
        String before = Snapshot.of(farm);
        Check.argument("no day", () -> farm.pass(0));
        Check.argument("100 days", () -> farm.pass(100));
        Check.argument("days back", () -> farm.pass(-1));
        Check.same("nothing changes", Snapshot.of(farm), before);
        Check.same("a day", farm.pass(1), 1);
        Check.same("99 more", farm.pass(99), 100);
    }

    private static void lastDay() {
        ThresholdRow farm = new ThresholdRow();
        for (int times = 1; times <= 100; times++) {
            Check.same("day", farm.pass(99), 99 * times);
        }
        Check.same("day", farm.pass(98), 9998);
        Check.state("10000", () -> farm.pass(2));
        Check.argument("no day", () -> farm.pass(0));
        Check.same("9999", farm.pass(1), 9999);
        Check.state("10000", () -> farm.pass(1));
        Check.argument("100 days", () -> farm.pass(100));
    }
}
