/**
 * All that can be learnt of a farm by any calls, so also what no call just tells: hirings, customs, owls, bushels, the
 * day's work, the count of the tithe. It uses the farm up.
 */
final class Probe {
    /** A call whose answer, or whose exception, is told. */
    private interface Asking {
        Object ask();
    }

    private final ThresholdRow farm;
    private final StringBuilder text = new StringBuilder();

    private Probe(ThresholdRow farm) {
        this.farm = farm;
    }

    static String of(ThresholdRow farm) {
        Probe probe = new Probe(farm);
        probe.text.append(Snapshot.of(farm));
        probe.bushelsAndTithes();
        probe.wages();
        probe.drum();
        probe.lots();
        probe.ratsAndCustoms();
        probe.daysOfHiring();
        probe.text.append('\n').append(Snapshot.of(farm));
        return probe.text.toString();
    }

    private void tell(String what, Asking asking) {
        text.append(' ').append(what).append('=');
        try {
            text.append(asking.ask());
        } catch (RuntimeException refused) {
            text.append(refused.getClass().getSimpleName());
        }
    }

    private void bushelsAndTithes() {
        for (int house = 0; house < 4; house++) {
            int of = house;
            tell("bushel", () -> farm.setBushel(of, 64));
        }
        for (int times = 0; times < 10; times++) {
            tell("tithe", () -> farm.measure(0, 0, 0, 's', 1));
            tell("tithe", () -> farm.measure(1, 5, 0, 's', 1));
        }
    }

    private void wages() {
        for (int hand = 0; hand < 8; hand++) {
            int who = hand;
            tell("stand", () -> farm.stand(who));
        }
        tell("work", () -> farm.thresh(0, 'p', 1));
        tellOwed();
        tell("day", () -> farm.pass(1));
        tell("work", () -> farm.thresh(1, 'c', 1));
        tellOwed();
        tell("bushel", () -> farm.measure(0, 0, 0, 's', 1));
        tellOwed();
        otherGang();
        tell("day", () -> farm.pass(1));
        tell("work", () -> farm.thresh(1, 'c', 1));
        tellOwed();
    }

    /** Who had no place in the gang stands in it now. */
    private void otherGang() {
        for (int hand = 0; hand < 8; hand++) {
            int who = hand;
            tell("leave", () -> farm.leave(who));
        }
        for (int hand = 7; hand >= 0; hand--) {
            int who = hand;
            tell("stand", () -> farm.stand(who));
        }
    }

    private void tellOwed() {
        for (int hand = 0; hand < 8; hand++) {
            int who = hand;
            tell("owed", () -> farm.owed(who));
        }
    }

    private void drum() {
        tell("fire", () -> farm.fire(1, 1));
        tell("tested", () -> farm.testBoiler());
        tell("fire", () -> farm.fire(0, 1));
        tell("foreign", () -> farm.heapOf(0, 'f'));
        tell("foreign", () -> farm.heapOf(1, 'f'));
        tell("z", () -> farm.setZ(5));
    }

    private void lots() {
        for (int lot = 0; lot < 3; lot++) {
            int of = lot;
            tell("clear", () -> farm.clear(of));
        }
        tell("lot", () -> farm.addLot(0, 1, 0));
        tell("hand", () -> farm.addHand(1, 0));
    }

    private void ratsAndCustoms() {
        for (int custom = 0; custom < 4; custom++) {
            int of = custom;
            tell("custom", () -> farm.judge(of));
        }
        tell("owl", () -> farm.addOwl());
        tell("rats", () -> farm.addRats(99));
    }

    private void daysOfHiring() {
        for (int times = 0; times < 10; times++) {
            tell("hire", () -> farm.hireDrum(1, 1));
            tell("day", () -> farm.pass(1));
        }
    }
}
