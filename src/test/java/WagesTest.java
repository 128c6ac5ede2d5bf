/** Promises 28 to 30: hiring, what is owed, and pay. */
public final class WagesTest {
    private WagesTest() {
    }

    public static void main(String[] args) {
        hiring();
        byTheDay();
        dayPenny();
        byTheBushel();
        forTheWinter();
        paying();
        Check.finish("WagesTest");
    }

    private static void hiring() {
        ThresholdRow farm = Farms.withHands(5, 0, 0);
        String before = Snapshot.of(farm);
        Check.index("hand 2", () -> farm.hire(2, 'd', 5));
        Check.index("hand -1, no way", () -> farm.hire(-1, 'x', 0));
        Check.argument("no way", () -> farm.hire(0, 'x', 5));
        Check.argument("no rate", () -> farm.hire(0, 'w', 0));
        Check.argument("a rate of 100", () -> farm.hire(0, 'w', 100));
        Check.index("owed to hand 2", () -> farm.owed(2));
        Check.index("owed to hand -1", () -> farm.owed(-1));
        Check.index("pay of hand 2", () -> farm.pay(2));
        Check.index("pay of hand -1", () -> farm.pay(-1));
        Check.same("nothing changes", Snapshot.of(farm), before);
        Check.same("by the day", farm.hire(0, 'd', 1), 0);
        Check.same("by the bushel", farm.hire(0, 'm', 99), 0);
    }

    private static void byTheDay() {
        ThresholdRow farm = Farms.withGang(5, 5);
        farm.judge(2);
        farm.addHand(5, 0);
        farm.addLot(0, 1000, 0);
        farm.hire(0, 'd', 12);
        farm.hire(2, 'd', 50);
        farm.practise(1);
        Check.same("practice is no work", farm.owed(0), 0);
        farm.thresh(0, 'c', 1);
        Check.same("a day's work", farm.owed(0), 12);
        Check.same("not hired", farm.owed(1), 0);
        Check.same("did not stand", farm.owed(2), 0);
        farm.thresh(0, 'p', 9);
        Check.same("once a day", farm.owed(0), 12);
        farm.stand(2);
        farm.hire(1, 'd', 7);
        farm.thresh(0, 'p', 1);
        Check.same("came later that day", farm.owed(2), 50);
        Check.same("was hired behind the day's work", farm.owed(1), 0);
        farm.pass(1);
        farm.hire(0, 'd', 20);
        farm.clear(0);
        farm.thresh(0, 'c', 1);
        Check.same("another day, another rate, and no ears", farm.owed(0), 32);
        Check.same("and the other one", farm.owed(1), 7);
        farm.pass(5);
        Check.same("no work on a day that passes", farm.owed(0), 32);
    }

    private static void dayPenny() {
        ThresholdRow farm = Farms.withGang(5, 5, 5, 5);
        farm.addLot(0, 1000, 0);
        farm.hire(1, 'd', 10);
        farm.hire(2, 'm', 10);
        farm.hire(3, 'w', 10);
        farm.thresh(0, 'c', 1);
        farm.thresh(0, 'c', 1);
        Check.same("not hired", farm.owed(0), 1);
        Check.same("by the day", farm.owed(1), 11);
        Check.same("by the bushel", farm.owed(2), 1);
        Check.same("for the winter", farm.owed(3), 11);
        farm.pass(1);
        Check.same("bound", farm.judge(2), true);
        farm.thresh(0, 'c', 1);
        Check.same("a court ended it", farm.owed(0), 1);
        Check.same("but not the rate", farm.owed(1), 21);
    }

    private static void byTheBushel() {
        ThresholdRow farm = Farms.withHeap(0);
        for (int hand = 0; hand < 4; hand++) {
            farm.addHand(5, 0);
        }
        Farms.stand(farm, 0, 1, 2);
        farm.hire(0, 'm', 3);
        farm.hire(1, 'm', 5);
        farm.hire(2, 'd', 5);
        farm.hire(3, 'm', 7);
        farm.measure(0, 0, 0, 's', 11);
        Check.same("also of the tithe", farm.owed(0), 33);
        Check.same("by the rate", farm.owed(1), 55);
        Check.same("by the day", farm.owed(2), 0);
        Check.same("does not stand", farm.owed(3), 0);
        farm.leave(0);
        farm.measure(0, 0, 0, 's', 1);
        Check.same("left", farm.owed(0), 33);
        Check.same("stands", farm.owed(1), 60);
        farm.measure(0, 0, 0, 's', 90);
        String before = Snapshot.of(farm);
        Check.unsupported("too much", () -> farm.measure(0, 0, 0, 's', 90));
        Check.same("nothing is owed for it", Snapshot.of(farm), before);
        Check.same("90 more", farm.owed(1), 510);
    }

    private static void forTheWinter() {
        ThresholdRow farm = Farms.withGang(5, 5);
        farm.judge(2);
        farm.addLot(0, 100, 0);
        Check.same("once, as it is told", farm.hire(0, 'w', 40), 40);
        farm.thresh(0, 'c', 1);
        farm.pass(2);
        Check.same("no more", farm.owed(0), 40);
        Check.same("told again", farm.hire(0, 'w', 50), 90);
        Check.same("in its place", farm.hire(0, 'd', 6), 90);
        farm.thresh(0, 'c', 1);
        Check.same("by the day now", farm.owed(0), 96);
    }

    private static void paying() {
        ThresholdRow farm = Farms.withHands(5, 0, 0);
        Check.same("nothing", farm.pay(0), 0);
        farm.hire(0, 'w', 40);
        farm.hire(1, 'w', 2);
        Check.same("money ahead of it", farm.money(), 0);
        Check.same("pay", farm.pay(0), 40);
        Check.same("owed", farm.owed(0), 0);
        Check.same("the other one", farm.owed(1), 2);
        Check.same("money", farm.money(), -40);
        Check.same("again", farm.pay(0), 0);
        Check.same("pay", farm.pay(1), 2);
        Check.same("money", farm.money(), -42);
    }
}
