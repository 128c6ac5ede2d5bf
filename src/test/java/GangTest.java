import java.util.NoSuchElementException;

/** Promises 1 to 11: hands, the gang and its rounds. */
public final class GangTest {
    private GangTest() {
    }

    public static void main(String[] args) {
        newFarm();
        addingHands();
        standing();
        leaving();
        leaning();
        leaningByFatigue();
        beatHolds();
        beatBreaks();
        beatBreaksAcrossTheRound();
        loserOfThePair();
        worn();
        fatigueHasALimit();
        practiseArguments();
        unknownHands();
        Check.finish("GangTest");
    }

    private static void newFarm() {
        ThresholdRow farm = new ThresholdRow();
        long sum = 7;
        for (int times = 0; times < 8; times++) {
            sum *= 31;
        }
        Check.same("checksum of a new farm", farm.checksum(), 31 * sum + 1);
        Check.same("money", farm.money(), 0);
        Check.same("flour", farm.flour(), 0);
        Check.same("rats", farm.rats(), 0);
        Check.same("carried", farm.carried(), 0);
        Check.same("lots", farm.account('a'), 0);
        Check.same("sound", farm.isSound(), true);
        Check.index("hand 0 of none", () -> farm.fatigue(0));
        Check.index("lot 0 of none", () -> farm.ears(0));
    }

    private static void addingHands() {
        ThresholdRow farm = new ThresholdRow();
        Check.argument("strength 0", () -> farm.addHand(0, 0));
        Check.argument("strength 10", () -> farm.addHand(10, 0));
        Check.argument("habit -4", () -> farm.addHand(5, -4));
        Check.argument("habit 4", () -> farm.addHand(5, 4));
        Check.argument("wild", () -> farm.addHand(Integer.MIN_VALUE, Integer.MAX_VALUE));
        Check.same("first hand", farm.addHand(1, -3), 0);
        Check.same("second hand", farm.addHand(9, 3), 1);
        for (int hand = 2; hand < 8; hand++) {
            Check.same("hand", farm.addHand(5, 0), hand);
        }
        Check.state("a ninth hand", () -> farm.addHand(5, 0));
        Check.argument("a ninth hand without strength", () -> farm.addHand(0, 0));
        Check.same("fatigue at first", farm.fatigue(7), 0);
        Check.same("hurt at first", farm.hurt(7), 0);
        Check.same("lost at first", farm.lost(7), 0);
        Check.same("owed at first", farm.owed(7), 0);
        Check.same("place at first", farm.placeOf(7), -1);
    }

    private static void standing() {
        ThresholdRow farm = Farms.withHands(5, 0, 0, 0, 0, 0, 0);
        Check.index("hand -1", () -> farm.stand(-1));
        Check.index("hand 6", () -> farm.stand(6));
        for (int hand = 0; hand < 5; hand++) {
            Check.same("stand", farm.stand(4 - hand), hand + 1);
        }
        Check.same("place of the last", farm.placeOf(0), 4);
        Check.same("place of the first", farm.placeOf(4), 0);
        Check.same("stroke of the second", farm.strokeOf(3), 12);
        Check.same("stroke of the last", farm.strokeOf(0), 48);
        Check.state("a sixth", () -> farm.stand(5));
        Check.unsupported("the last of five again", () -> farm.stand(0));
        Check.unsupported("the first of five again", () -> farm.stand(4));
        Check.index("no such hand, five stand", () -> farm.stand(6));
        Check.same("who could not stand", farm.placeOf(5), -1);
    }

    private static void leaving() {
        ThresholdRow farm = Farms.withHands(5, 3, 1, -2, 0);
        Farms.stand(farm, 0, 1, 2);
        farm.practise(1);
        Check.index("hand 4", () -> farm.leave(4));
        Check.index("hand -1", () -> farm.leave(-1));
        Check.unsupported("hand 3 does not stand", () -> farm.leave(3));
        Check.same("leave", farm.leave(1), 2);
        Check.same("who left", farm.placeOf(1), -1);
        Check.same("who was behind", farm.placeOf(2), 1);
        Check.same("error of who stays", farm.errorOf(2), -2);
        Check.same("stroke of who stays", farm.strokeOf(2), 28);
        Check.unsupported("leave again", () -> farm.leave(1));
        Check.refuses("error of who left", NoSuchElementException.class, () -> farm.errorOf(1));
        Check.refuses("stroke of who left", NoSuchElementException.class, () -> farm.strokeOf(1));
        Check.same("back as the last", farm.stand(1), 3);
        Check.same("place", farm.placeOf(1), 2);
        Check.same("no error as it comes", farm.errorOf(1), 0);
        Check.same("error of the first is kept", farm.errorOf(0), 3);
    }

    private static void leaning() {
        ThresholdRow both = Farms.withHands(5, 3, 1);
        Farms.stand(both, 0, 1);
        both.practise(1);
        Check.same("habit", both.errorOf(0), 3);
        Check.same("habit", both.errorOf(1), 1);
        both.practise(1);
        Check.same("first leans on the last", both.errorOf(0), 5);
        Check.same("by the errors as they were", both.errorOf(1), 3);
        ThresholdRow left = Farms.withHands(5, -1, 0);
        Farms.stand(left, 0, 1);
        left.practise(2);
        Check.same("cut toward 0", left.errorOf(0), -1);
        Check.same("cut toward 0, no habit", left.errorOf(1), 0);
        Check.same("stroke below 0", left.strokeOf(0), -1);
        ThresholdRow three = Farms.withHands(5, 3, 0, 0);
        Farms.stand(three, 0, 1, 2);
        three.practise(2);
        Check.same("first", three.errorOf(0), 4);
        Check.same("second leans on the first", three.errorOf(1), 1);
        Check.same("third leans on the second", three.errorOf(2), 0);
        Check.same("a third of the round", three.strokeOf(1), 21);
    }

    private static void leaningByFatigue() {
        ThresholdRow farm = Farms.withHands(5, 2, -2, 0);
        Farms.tirePair(farm, 0, 1, 9);
        Farms.stand(farm, 0, 1);
        farm.practise(1);
        Check.same("fatigue 18 is no twentieth", farm.errorOf(0), 2);
        Farms.leave(farm, 0, 1);
        Farms.stand(farm, 0, 1);
        farm.practise(1);
        Check.same("fatigue 20", farm.errorOf(0), 3);
        Check.same("farther in the direction", farm.errorOf(1), -3);
        Farms.leave(farm, 0, 1);
        Farms.tirePair(farm, 1, 2, 40);
        Farms.stand(farm, 1, 2);
        farm.practise(1);
        Check.same("fatigue 100", farm.errorOf(1), -7);
        Check.same("no habit, no direction", farm.errorOf(2), 0);
        ThresholdRow slight = Farms.withHands(5, 1, -1);
        Farms.tirePair(slight, 0, 1, 30);
        Farms.stand(slight, 0, 1);
        slight.practise(1);
        Check.same("a habit of 1", slight.errorOf(0), 4);
        Check.same("a habit of -1", slight.errorOf(1), -4);
    }

    private static ThresholdRow tiredFive(int tired, int other, int... order) {
        ThresholdRow farm = Farms.withHands(5, 3, -3, 0, 0, 0, 3, -3);
        Farms.tirePair(farm, 0, 2, tired);
        Farms.tirePair(farm, 1, 3, other);
        Farms.stand(farm, order);
        return farm;
    }

    private static void beatHolds() {
        ThresholdRow farm = tiredFive(10, 10, 0, 1, 2, 3, 4);
        Check.same("4 ticks apart", farm.practise(1), 1);
        Check.same("error", farm.errorOf(0), 4);
        Check.same("error", farm.errorOf(1), -4);
        Check.same("nobody lost it", farm.lost(0) + farm.lost(1), 0);
    }

    private static void beatBreaks() {
        ThresholdRow farm = Farms.withHands(5, 3, -3, 0, 0, 3);
        Farms.stand(farm, 0, 1, 2, 3, 4);
        Check.same("the second of two is broken", farm.practise(2), 1);
        Check.same("lost by the greater error", farm.lost(0), 1);
        Check.same("not by the smaller", farm.lost(1), 0);
        for (int hand = 0; hand < 5; hand++) {
            Check.same("no error behind it", farm.errorOf(hand), 0);
            Check.same("fatigue, broken or not", farm.fatigue(hand), 4);
            Check.same("place", farm.placeOf(hand), hand);
        }
        Check.same("not hurt", farm.hurt(0), 0);
        ThresholdRow over = tiredFive(50, 50, 0, 1, 2, 3, 4);
        Check.same("the later one's falls first", over.practise(1), 0);
        Check.same("like ones: the second", over.lost(1), 1);
        Check.same("the second is hurt", over.hurt(1), 7);
    }

    private static void beatBreaksAcrossTheRound() {
        ThresholdRow last = tiredFive(20, 20, 1, 2, 3, 4, 0);
        Check.same("last and first", last.practise(1), 0);
        Check.same("the second one is the first", last.lost(1), 1);
        Check.same("the last", last.lost(0), 0);
        ThresholdRow holds = tiredFive(10, 10, 1, 2, 3, 4, 0);
        Check.same("last and first 4 ticks apart", holds.practise(1), 1);
        ThresholdRow close = tiredFive(20, 10, 1, 2, 3, 4, 0);
        Check.same("last and first 3 ticks apart", close.practise(1), 0);
        Check.same("lost by the last", close.lost(0), 1);
        ThresholdRow end = tiredFive(20, 10, 2, 3, 4, 0, 1);
        Check.same("the last but one and the last 3 ticks apart", end.practise(1), 0);
        Check.same("lost by the last but one", end.lost(0), 1);
        ThresholdRow twice = Farms.withHands(5, 3, -3, 3, -3, 0);
        Farms.tirePair(twice, 0, 1, 20);
        Farms.tirePair(twice, 2, 3, 25);
        Farms.stand(twice, 0, 1, 2, 3, 4);
        Check.same("two pairs", twice.practise(1), 0);
        Check.same("the first pair's", twice.lost(1), 1);
        Check.same("the second pair's", twice.lost(3), 0);
        Check.same("nobody is hurt of the second pair", twice.hurt(3), 0);
    }

    private static void loserOfThePair() {
        ThresholdRow ahead = tiredFive(20, 10, 0, 1, 2, 3, 4);
        Check.same("5 against -4", ahead.practise(1), 0);
        Check.same("the one ahead", ahead.lost(0), 1);
        ThresholdRow behind = tiredFive(10, 20, 0, 1, 2, 3, 4);
        Check.same("4 against -5", behind.practise(1), 0);
        Check.same("the one behind", behind.lost(1), 1);
        ThresholdRow alike = tiredFive(20, 20, 0, 1, 2, 3, 4);
        Check.same("5 against -5", alike.practise(1), 0);
        Check.same("the second one", alike.lost(1), 1);
        Check.same("not the first one", alike.lost(0), 0);
    }

    private static void worn() {
        ThresholdRow farm = tiredFive(24, 24, 0, 1, 2, 3, 4);
        Check.same("broken", farm.practise(1), 0);
        Check.same("48 as it began is not enough", farm.hurt(1), 0);
        Check.same("now 50", farm.fatigue(1), 50);
        Check.same("stands still", farm.placeOf(1), 1);
        Check.same("broken again", farm.practise(1), 0);
        Check.same("50 as it began", farm.hurt(1), 7);
        Check.same("the hurt one tires, too", farm.fatigue(1), 52);
        Check.same("lost two", farm.lost(1), 2);
        Check.same("stands no more", farm.placeOf(1), -1);
        Check.same("the next one closes up", farm.placeOf(2), 1);
        Check.same("four stand", farm.strokeOf(2), 15);
        Check.unsupported("who is hurt", () -> farm.stand(1));
        Check.unsupported("who is hurt can't leave", () -> farm.leave(1));
        farm.pass(1);
        Check.same("a day less", farm.hurt(1), 6);
        Check.same("30 less", farm.fatigue(1), 22);
        Check.same("and of all", farm.fatigue(0), 22);
        farm.pass(5);
        Check.same("the last day", farm.hurt(1), 1);
        Check.unsupported("hurt on the last day", () -> farm.stand(1));
        farm.pass(1);
        Check.same("well", farm.hurt(1), 0);
        Check.same("0 at least", farm.fatigue(1), 0);
        Check.same("as the last one", farm.stand(1), 5);
        Check.same("place", farm.placeOf(1), 4);
        Check.same("sound", farm.isSound(), true);
        farm.leave(1);
        farm.stand(5);
        Check.unsupported("stands, and five do", () -> farm.stand(5));
    }

    private static void fatigueHasALimit() {
        ThresholdRow farm = Farms.withHands(5, 0, 0, 0);
        Farms.stand(farm, 0, 1);
        Check.same("49 rounds", farm.practise(49), 49);
        Check.same("98", farm.fatigue(0), 98);
        farm.practise(1);
        Check.same("100", farm.fatigue(0), 100);
        farm.practise(99);
        Check.same("no more", farm.fatigue(1), 100);
        Check.same("who does not stand", farm.fatigue(2), 0);
        farm.pass(3);
        Check.same("three days", farm.fatigue(0), 10);
        farm.pass(1);
        Check.same("not below 0", farm.fatigue(0), 0);
    }

    private static void practiseArguments() {
        ThresholdRow farm = Farms.withGang(5, 5);
        String before = Snapshot.of(farm);
        Check.argument("no round", () -> farm.practise(0));
        Check.argument("100 rounds", () -> farm.practise(100));
        Check.same("nothing changes", Snapshot.of(farm), before);
        Check.same("99 rounds", farm.practise(99), 99);
        farm.leave(1);
        Check.unsupported("one alone", () -> farm.practise(1));
        Check.argument("one alone, no round", () -> farm.practise(0));
        farm.leave(0);
        Check.unsupported("nobody", () -> farm.practise(1));
        Check.same("nobody owed by practice", farm.owed(0), 0);
    }

    private static void unknownHands() {
        ThresholdRow farm = Farms.withHands(5, 0, 0);
        for (int hand : new int[] {-1, 2, Integer.MIN_VALUE, Integer.MAX_VALUE}) {
            Check.index("stand", () -> farm.stand(hand));
            Check.index("leave", () -> farm.leave(hand));
            Check.index("placeOf", () -> farm.placeOf(hand));
            Check.index("errorOf", () -> farm.errorOf(hand));
            Check.index("strokeOf", () -> farm.strokeOf(hand));
            Check.index("fatigue", () -> farm.fatigue(hand));
            Check.index("hurt", () -> farm.hurt(hand));
            Check.index("lost", () -> farm.lost(hand));
        }
        Check.refuses("errorOf", NoSuchElementException.class, () -> farm.errorOf(1));
        Check.refuses("strokeOf", NoSuchElementException.class, () -> farm.strokeOf(1));
    }
}
