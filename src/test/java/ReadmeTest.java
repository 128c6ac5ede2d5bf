/** The calls of README.md's "Use" answer what is said there. */
public final class ReadmeTest {
    private ReadmeTest() {
    }

    public static void main(String[] args) {
        ThresholdRow farm = new ThresholdRow();
        int ann = farm.addHand(6, 0);
        int ben = farm.addHand(8, 1);
        farm.stand(ann);
        farm.stand(ben);
        farm.hire(ben, 'm', 3);
        int lot = farm.addLot(0, 1000, 2);
        Check.same("thresh", farm.thresh(lot, 'p', 30), 688);
        Check.same("winnow", farm.winnow(lot, 6), 0);
        Check.same("winnow", farm.winnow(lot, 6), 0);
        Check.unsupported("chaff", () -> farm.measure(lot, 0, 1, 'h', 5));
        Check.same("winnow", farm.winnow(lot, 6), 0);
        Check.same("measure", farm.measure(lot, 0, 1, 'h', 5), 360);
        Check.same("grind", farm.grind(0, 100), 1200);
        Check.same("bake", farm.bake(5, 64), 31);
        Check.same("pass", farm.pass(2), 2);
        Check.same("pay", farm.pay(ben), 16);
        Check.same("money", farm.money(), -11);
        Check.same("binOf", farm.binOf(0, 'g'), 260);
        Check.finish("ReadmeTest");
    }
}
