/** Promises 18 to 23: the drum, its boiler, what it carries, and z. */
public final class DrumTest {
    private DrumTest() {
    }

    public static void main(String[] args) {
        hiring();
        testing();
        firing();
        fewEars();
        boilerInTime();
        carrying();
        cleaning();
        sparks();
        sparkLimits();
        settingZ();
        firingArguments();
        Check.finish("DrumTest");
    }

    private static void hiring() {
        ThresholdRow farm = new ThresholdRow();
        String before = Snapshot.of(farm);
        Check.argument("no day", () -> farm.hireDrum(0, 5));
        Check.argument("100 days", () -> farm.hireDrum(100, 5));
        Check.argument("no price", () -> farm.hireDrum(5, 0));
        Check.argument("a price of 100", () -> farm.hireDrum(5, 100));
        Check.same("nothing changes", Snapshot.of(farm), before);
        Check.same("cost", farm.hireDrum(3, 20), 60);
        Check.same("money", farm.money(), -60);
        Check.unsupported("hired", () -> farm.hireDrum(1, 1));
        Check.argument("hired, no day", () -> farm.hireDrum(0, 1));
        farm.pass(2);
        Check.unsupported("on the last day", () -> farm.hireDrum(1, 1));
        farm.pass(1);
        Check.same("behind it", farm.hireDrum(99, 99), 9801);
        Check.same("money", farm.money(), -9861);
        farm.pass(98);
        Check.unsupported("99 days", () -> farm.hireDrum(1, 1));
        farm.pass(1);
        Check.same("for the day of now", farm.hireDrum(1, 1), 1);
        Check.unsupported("on that day", () -> farm.hireDrum(1, 1));
    }

    private static void testing() {
        ThresholdRow farm = new ThresholdRow();
        Check.same("never", farm.testBoiler(), -1);
        Check.same("today", farm.testBoiler(), 0);
        farm.pass(13);
        Check.same("13 days ago", farm.testBoiler(), 13);
        Check.same("today", farm.testBoiler(), 0);
    }

    private static void firing() {
        ThresholdRow farm = new ThresholdRow();
        farm.addLot(0, 2000, 9);
        Check.unsupported("not hired, not tested", () -> farm.fire(0, 1));
        farm.testBoiler();
        Check.unsupported("not hired", () -> farm.fire(0, 1));
        farm.hireDrum(3, 20);
        Check.same("501, 375 and 282", farm.fire(0, 3), 1158);
        Check.same("ears", farm.ears(0), 842);
        Check.same("chaff", farm.heapOf(0, 'c'), 1158);
        Check.same("grain", farm.heapOf(0, 'g'), 1147);
        Check.same("25, 18 and 14", farm.heapOf(0, 'b'), 57);
        Check.same("carried", farm.carried(), 11);
        Check.same("sound", farm.isSound(), true);
        farm.pass(2);
        Check.same("on the last day of hiring", farm.fire(0, 1), 211);
        farm.pass(1);
        Check.unsupported("behind it", () -> farm.fire(0, 1));
    }

    private static void fewEars() {
        ThresholdRow farm = new ThresholdRow();
        farm.addLot(0, 5, 9);
        farm.hireDrum(1, 1);
        farm.testBoiler();
        Check.same("2, 1, 1 and 1", farm.fire(0, 4), 5);
        Check.same("none", farm.fire(0, 9), 0);
        Check.same("grain", farm.heapOf(0, 'g'), 5);
        Check.same("nothing is carried", farm.carried(), 0);
        farm.addLot(0, 8, 9);
        Check.same("3 and 2", farm.fire(1, 2), 5);
    }

    private static void boilerInTime() {
        ThresholdRow farm = new ThresholdRow();
        farm.addLot(0, 100, 9);
        farm.testBoiler();
        farm.pass(99);
        farm.pass(99);
        farm.pass(2);
        farm.hireDrum(9, 1);
        Check.same("200 days ago", farm.fire(0, 1), 26);
        farm.pass(1);
        Check.unsupported("201 days ago", () -> farm.fire(0, 1));
        Check.same("tested again", farm.testBoiler(), 201);
        Check.same("so it can be fired", farm.fire(0, 1), 19);
        ThresholdRow never = new ThresholdRow();
        never.addLot(0, 100, 9);
        never.hireDrum(9, 1);
        Check.unsupported("never tested", () -> never.fire(0, 1));
    }

    private static void carrying() {
        ThresholdRow farm = Farms.withDrum(1, 1, 2);
        Check.same("first", farm.fire(0, 1), 2500);
        Check.same("a hundredth", farm.carried(), 25);
        Check.same("account", farm.account('c'), 25);
        Check.same("not on the heap", farm.heapOf(0, 'g'), 2475);
        Check.same("a lot of its crop", farm.fire(1, 1), 2500);
        Check.same("grain", farm.heapOf(1, 'g'), 2500);
        Check.same("not foreign", farm.heapOf(1, 'f'), 0);
        Check.same("chaff of its own", farm.heapOf(1, 'c'), 2500);
        Check.same("a lot of another crop", farm.fire(2, 2), 4375);
        Check.same("grain", farm.heapOf(2, 'g'), 4357);
        Check.same("foreign", farm.heapOf(2, 'f'), 25);
        Check.same("chaff of its own", farm.heapOf(2, 'c'), 4375);
        Check.same("carried", farm.carried(), 43);
        farm.fire(0, 1);
        Check.same("foreign in the first", farm.heapOf(0, 'f'), 43);
        farm.fire(0, 1);
        Check.same("its own is not", farm.heapOf(0, 'f'), 43);
        Check.same("sound", farm.isSound(), true);
    }

    private static void cleaning() {
        ThresholdRow farm = Farms.withDrum(1, 2);
        Check.same("nothing yet", farm.cleanDrum(), 0);
        farm.fire(0, 1);
        Check.same("cleaned", farm.cleanDrum(), 25);
        Check.same("carried", farm.carried(), 0);
        Check.same("again", farm.cleanDrum(), 0);
        Check.same("cleaned away", farm.account('x'), 25);
        farm.fire(1, 1);
        Check.same("nothing foreign", farm.heapOf(1, 'f'), 0);
        farm.cleanDrum();
        Check.same("cleaned away in all", farm.account('x'), 50);
        Check.same("sound", farm.isSound(), true);
    }

    private static ThresholdRow dampLot(int damp) {
        ThresholdRow farm = new ThresholdRow();
        farm.addLot(0, 2000, damp);
        farm.hireDrum(9, 1);
        farm.testBoiler();
        return farm;
    }

    private static void sparks() {
        ThresholdRow farm = dampLot(0);
        Check.same("71 is below 72", farm.fire(0, 8), 1802);
        Check.same("the ears are burnt", farm.ears(0), 0);
        Check.same("burnt", farm.account('f'), 198);
        Check.same("the heap is not", farm.heapOf(0, 'g'), 1784);
        Check.same("z", farm.setZ(1), 48271);
        Check.same("sound", farm.isSound(), true);
        ThresholdRow wet = dampLot(1);
        wet.fire(0, 8);
        Check.same("71 is not below 64", wet.ears(0), 198);
        Check.same("nothing burnt", wet.account('f'), 0);
    }

    private static void sparkLimits() {
        ThresholdRow like = dampLot(3);
        like.setZ(2);
        like.fire(0, 7);
        Check.same("42 is not below 42", like.ears(0), 265);
        ThresholdRow below = dampLot(3);
        below.setZ(71);
        below.fire(0, 7);
        Check.same("41 is below 42", below.account('f'), 265);
        Check.same("z", below.setZ(100), 3427241);
        below.addLot(0, 50, 9);
        below.fire(1, 9);
        Check.same("z modulo 100 is 0, but no hour counts", below.account('f'), 265);
    }

    private static void settingZ() {
        ThresholdRow farm = Farms.withDrum(0);
        Check.argument("z 0", () -> farm.setZ(0));
        Check.argument("z -1", () -> farm.setZ(-1));
        Check.argument("z 2147483647", () -> farm.setZ(2147483647));
        Check.same("1 at first", farm.setZ(2147483646), 1);
        farm.fire(0, 1);
        Check.same("modulo 2147483647", farm.setZ(1), 2147435376);
        farm.fire(0, 1);
        farm.fire(0, 9);
        Check.same("two firings, whatever the hours", farm.setZ(5), 182605794);
        Check.same("the one before", farm.setZ(6), 5);
    }

    private static void firingArguments() {
        ThresholdRow farm = dampLot(0);
        String before = Snapshot.of(farm);
        Check.index("lot 1", () -> farm.fire(1, 1));
        Check.index("lot -1, no hour", () -> farm.fire(-1, 0));
        Check.argument("no hour", () -> farm.fire(0, 0));
        Check.argument("10 hours", () -> farm.fire(0, 10));
        Check.same("nothing changes", Snapshot.of(farm), before);
        farm.pass(9);
        Check.unsupported("not hired", () -> farm.fire(0, 1));
        Check.argument("not hired, no hour", () -> farm.fire(0, 0));
        Check.index("not hired, no lot", () -> farm.fire(1, 1));
        Check.same("z is as it was", farm.setZ(1), 1);
    }
}
