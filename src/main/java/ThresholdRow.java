import java.util.ArrayList;
import java.util.NoSuchElementException;

public final class ThresholdRow {
    private static final int MOST_HANDS = 8;
    private static final int MOST_IN_GANG = 5;
    private static final int LEAST_IN_GANG = 2;
    private static final int MOST_LOTS = 12;
    private static final int BINS = 6;
    private static final int BIN_PINTS = 9999;
    private static final int HOUSES = 4;
    private static final int FIRST_BUSHEL = 64;
    private static final int CUSTOMS = 4;
    private static final int TITHE = 0;
    private static final int GLEANING = 1;
    private static final int DAY_PENNY = 2;
    private static final int CLEAN_SEED = 3;
    private static final int NO_CROP = -1;
    private static final int NEVER = -1;
    private static final int LAST_DAY = 9999;
    private static final int MOST_RATS = 999;
    private static final int MOST_OWLS = 9;
    private static final int ROUND_TICKS = 60;
    private static final int LEAST_GAP = 4;
    private static final int Z_FACTOR = 48271;
    private static final int Z_MODULUS = 2147483647;

    private final ArrayList<Hand> hands = new ArrayList<Hand>();
    private final ArrayList<Lot> lots = new ArrayList<Lot>();
    private final ArrayList<Bin> bins = new ArrayList<Bin>();
    private final Gang gang = new Gang();
    private final Drum drum = new Drum();
    private final Ledger ledger = new Ledger();
    private final int[] bushelPints = new int[HOUSES];
    private final boolean[] customs = new boolean[CUSTOMS];
    private int day = 0;
    private int z = 1;
    private int rats = 0;
    private int owls = 0;
    private int flour = 0;
    private int money = 0;

    public ThresholdRow() {
        for (int bin = 0; bin < BINS; bin++) {
            bins.add(new Bin());
        }
        for (int house = 0; house < bushelPints.length; house++) {
            bushelPints[house] = FIRST_BUSHEL;
        }
        for (int custom = 0; custom < customs.length; custom++) {
            customs[custom] = true;
        }
    }

    public int addHand(int strength, int habit) throws IllegalArgumentException, IllegalStateException {
        checkRange(strength, 1, 9);
        checkRange(habit, -3, 3);
        if (hands.size() >= MOST_HANDS) {
            throw new IllegalStateException("there are 8 hands");
        }
        hands.add(new Hand(strength, habit));
        return hands.size() - 1;
    }

    public int stand(int hand) throws IndexOutOfBoundsException, UnsupportedOperationException, IllegalStateException {
        Hand who = handAt(hand);
        if (gang.placeFor(who) >= 0 || who.hurt > 0) {
            throw new UnsupportedOperationException("the hand stands in the gang, or is hurt");
        }
        if (gang.count() >= MOST_IN_GANG) {
            throw new IllegalStateException("there are 5 in the gang");
        }
        gang.takeIn(who);
        return gang.count();
    }

    public int leave(int hand) throws IndexOutOfBoundsException, UnsupportedOperationException {
        Hand who = handAt(hand);
        if (gang.placeFor(who) < 0) {
            throw new UnsupportedOperationException("the hand does not stand in the gang");
        }
        gang.letGo(who);
        return gang.count();
    }

    public int placeOf(int hand) throws IndexOutOfBoundsException {
        return gang.placeFor(handAt(hand));
    }

    public int errorOf(int hand) throws IndexOutOfBoundsException, NoSuchElementException {
        Hand who = handAt(hand);
        placeNeeded(who);
        return who.error;
    }

    public int strokeOf(int hand) throws IndexOutOfBoundsException, NoSuchElementException {
        return gang.tickAt(placeNeeded(handAt(hand)));
    }

    public int fatigue(int hand) throws IndexOutOfBoundsException {
        return handAt(hand).fatigue;
    }

    public int hurt(int hand) throws IndexOutOfBoundsException {
        return handAt(hand).hurt;
    }

    public int lost(int hand) throws IndexOutOfBoundsException {
        return handAt(hand).lost;
    }

    public int practise(int rounds) throws IllegalArgumentException, UnsupportedOperationException {
        checkRange(rounds, 1, 99);
        checkGang();
        int unbroken = 0;
        for (int round = 0; round < rounds && gang.count() >= LEAST_IN_GANG; round++) {
            if (gang.beatRound()) {
                unbroken++;
            }
        }
        return unbroken;
    }

    public int addLot(int crop, int pints, int damp) throws IllegalArgumentException, IllegalStateException {
        checkRange(crop, 0, 3);
        checkRange(pints, 1, 9999);
        checkRange(damp, 0, 9);
        if (lots.size() >= MOST_LOTS) {
            throw new IllegalStateException("there are 12 lots");
        }
        lots.add(new Lot(crop, pints, damp));
        return lots.size() - 1;
    }

    public int ears(int lot) throws IndexOutOfBoundsException {
        return lotAt(lot).ears;
    }

    public int heapOf(int lot, char what) throws IndexOutOfBoundsException, IllegalArgumentException {
        Lot of = lotAt(lot);
        if (what == 'g') {
            return of.grain;
        }
        if (what == 'c') {
            return of.chaff;
        }
        if (what == 'b') {
            return of.bruised;
        }
        if (what == 'f') {
            return of.foreign;
        }
        throw new IllegalArgumentException("no such thing of a heap");
    }

    public int thresh(int lot, char floor, int rounds)
            throws IndexOutOfBoundsException, IllegalArgumentException, UnsupportedOperationException {
        Lot of = lotAt(lot);
        if (floor != 'c' && floor != 'p') {
            throw new IllegalArgumentException("no such floor");
        }
        checkRange(rounds, 1, 99);
        checkGang();
        gang.noteDaysWork(day, bound(DAY_PENNY) ? 1 : 0);
        int freed = 0;
        for (int round = 0; round < rounds && gang.count() >= LEAST_IN_GANG; round++) {
            if (gang.beatRound()) {
                freed += gang.freeFrom(of, floor == 'p');
            }
        }
        return freed;
    }

    public int winnow(int lot, int wind) throws IndexOutOfBoundsException, IllegalArgumentException {
        Lot of = lotAt(lot);
        checkRange(wind, 1, 9);
        int blown = of.blow(wind);
        ledger.blown += blown;
        return blown;
    }

    public int clear(int lot) throws IndexOutOfBoundsException, UnsupportedOperationException {
        Lot of = lotAt(lot);
        if (of.cleared) {
            throw new UnsupportedOperationException("the lot was cleared");
        }
        int gleaned = bound(GLEANING) ? of.ears / 2 : 0;
        ledger.gleaned += gleaned;
        ledger.straw += of.ears - gleaned;
        of.ears = 0;
        of.cleared = true;
        return gleaned;
    }

    public int hireDrum(int days, int price) throws IllegalArgumentException, UnsupportedOperationException {
        checkRange(days, 1, 99);
        checkRange(price, 1, 99);
        if (drum.hiredOn(day)) {
            throw new UnsupportedOperationException("the drum is hired");
        }
        drum.hiredTill = day + days;
        money -= days * price;
        return days * price;
    }

    public int testBoiler() {
        int ago = drum.testedOn == NEVER ? -1 : day - drum.testedOn;
        drum.testedOn = day;
        return ago;
    }

    public int fire(int lot, int hours)
            throws IndexOutOfBoundsException, IllegalArgumentException, UnsupportedOperationException {
        Lot of = lotAt(lot);
        checkRange(hours, 1, 9);
        if (!drum.hiredOn(day) || !drum.safeOn(day)) {
            throw new UnsupportedOperationException("the drum is not hired, or its boiler not tested in time");
        }
        int freed = drum.beatLot(of, hours);
        z = (int) ((long) z * Z_FACTOR % Z_MODULUS);
        if (z % 100 < hours * (9 - of.damp)) {
            ledger.burnt += of.ears;
            of.ears = 0;
        }
        return freed;
    }

    public int carried() {
        return drum.carries;
    }

    public int cleanDrum() {
        int taken = drum.carries;
        drum.carries = 0;
        ledger.cleaned += taken;
        return taken;
    }

    public int setZ(int z) throws IllegalArgumentException {
        checkRange(z, 1, Z_MODULUS - 1);
        int before = this.z;
        this.z = z;
        return before;
    }

    public int setBushel(int house, int pints) throws IndexOutOfBoundsException, IllegalArgumentException {
        int before = bushelOf(house);
        checkRange(pints, 56, 72);
        bushelPints[house] = pints;
        return before;
    }

    public int measure(int lot, int bin, int house, char way, int bushels)
            throws IndexOutOfBoundsException, IllegalArgumentException, UnsupportedOperationException {
        Lot from = lotAt(lot);
        Bin into = binAt(bin);
        int pints = pintsByWay(bushelOf(house), way);
        checkRange(bushels, 1, 99);
        int tithes = bound(TITHE) ? from.tithesAmong(bushels) : 0;
        int coming = (bushels - tithes) * pints;
        if (from.chaff > from.grain / 10 || bushels * pints > from.grain) {
            throw new UnsupportedOperationException("too much chaff, or not as much grain");
        }
        if (into.crop != NO_CROP && into.crop != from.crop || into.grain + coming > BIN_PINTS) {
            throw new UnsupportedOperationException("another crop, or no room");
        }
        moveBushels(from, into, pints, bushels);
        gang.oweForBushels(bushels);
        return coming;
    }

    public int binOf(int bin, char what) throws IndexOutOfBoundsException, IllegalArgumentException {
        Bin of = binAt(bin);
        if (what == 'g') {
            return of.grain;
        }
        if (what == 'b') {
            return of.bruised;
        }
        if (what == 'f') {
            return of.foreign;
        }
        if (what == 'c') {
            return of.crop;
        }
        throw new IllegalArgumentException("no such thing of a bin");
    }

    public boolean judge(int custom) throws IllegalArgumentException {
        checkRange(custom, 0, customs.length - 1);
        boolean before = customs[custom];
        customs[custom] = false;
        return before;
    }

    public int hire(int hand, char way, int rate) throws IndexOutOfBoundsException, IllegalArgumentException {
        Hand who = handAt(hand);
        if (way != 'd' && way != 'm' && way != 'w') {
            throw new IllegalArgumentException("no such way of hiring");
        }
        checkRange(rate, 1, 99);
        who.way = way;
        who.rate = rate;
        if (way == 'w') {
            who.owed += rate;
        }
        return who.owed;
    }

    public int owed(int hand) throws IndexOutOfBoundsException {
        return handAt(hand).owed;
    }

    public int pay(int hand) throws IndexOutOfBoundsException {
        Hand who = handAt(hand);
        int wages = who.owed;
        who.owed = 0;
        money -= wages;
        return wages;
    }

    public int addRats(int many) throws IllegalArgumentException {
        checkRange(many, 1, 99);
        rats = Math.min(rats + many, MOST_RATS);
        return rats;
    }

    public int addOwl() throws IllegalStateException {
        if (owls >= MOST_OWLS) {
            throw new IllegalStateException("there are 9 owls");
        }
        owls++;
        return owls;
    }

    public int rats() {
        return rats;
    }

    public int pass(int days) throws IllegalArgumentException, IllegalStateException {
        checkRange(days, 1, 99);
        if (day + days > LAST_DAY) {
            throw new IllegalStateException("there is no day above 9999");
        }
        for (int passed = 0; passed < days; passed++) {
            day++;
            restHands();
            if (rats > 0) {
                feedRats();
            }
        }
        return day;
    }

    public int grind(int bin, int pints)
            throws IndexOutOfBoundsException, IllegalArgumentException, UnsupportedOperationException {
        Bin from = binAt(bin);
        checkRange(pints, 1, 9999);
        if (pints > from.grain) {
            throw new UnsupportedOperationException("the bin has not as much");
        }
        int sound = Math.min(pints, from.soundGrain());
        int ounces = 12 * sound + 8 * (pints - sound);
        // Sound grain goes first, so that takeOut's cap leaves just the bruised grain that was not ground.
        from.takeOut(pints);
        ledger.ground += pints;
        flour += ounces;
        return ounces;
    }

    public int flour() {
        return flour;
    }

    public int bake(int loaves, int price) throws IllegalArgumentException, UnsupportedOperationException {
        checkRange(loaves, 1, 999);
        int weight = assizeWeight(price);
        if (loaves * weight > flour) {
            throw new UnsupportedOperationException("there is not as much flour");
        }
        flour -= loaves * weight;
        money += loaves;
        return weight;
    }

    public int sellSeed(int bin, int pints, int price)
            throws IndexOutOfBoundsException, IllegalArgumentException, UnsupportedOperationException {
        Bin from = binAt(bin);
        checkRange(pints, 1, 9999);
        checkRange(price, 1, 9);
        if (pints > from.soundGrain()) {
            throw new UnsupportedOperationException("the bin has not as much sound grain");
        }
        if (bound(CLEAN_SEED) && from.foreign > from.grain / 100) {
            throw new UnsupportedOperationException("the custom forbids it");
        }
        from.takeOut(pints);
        ledger.sold += pints;
        money += pints * price;
        return pints * price;
    }

    public int money() {
        return money;
    }

    public int account(char what) throws IllegalArgumentException {
        if (what == 'a') {
            return sumCame();
        }
        if (what == 'e') {
            return sumEars();
        }
        if (what == 'h') {
            return sumHeaps();
        }
        if (what == 'c') {
            return drum.carries;
        }
        if (what == 'b') {
            return sumBins();
        }
        int gone = ledger.goneBy(what);
        if (gone < 0) {
            throw new IllegalArgumentException("no such account");
        }
        return gone;
    }

    public long checksum() {
        long sum = 7;
        for (int i = 0; i < lots.size(); i++) {
            Lot lot = lots.get(i);
            sum = 31 * sum + lot.ears;
            sum = 31 * sum + lot.grain;
            sum = 31 * sum + lot.chaff;
        }
        for (int i = 0; i < bins.size(); i++) {
            sum = 31 * sum + bins.get(i).grain;
        }
        for (int i = 0; i < hands.size(); i++) {
            Hand hand = hands.get(i);
            sum = 31 * sum + hand.fatigue;
            sum = 31 * sum + hand.lost;
        }
        sum = 31 * sum + money;
        sum = 31 * sum + day;
        return 31 * sum + z;
    }

    public float bruisedShare() throws ArithmeticException {
        int grain = sumBins();
        if (grain <= 0) {
            throw new ArithmeticException("there is no grain in the bins");
        }
        int bruised = 0;
        for (int i = 0; i < bins.size(); i++) {
            bruised += bins.get(i).bruised;
        }
        return (float) bruised / (float) grain;
    }

    public double meanFatigue() throws ArithmeticException {
        int count = hands.size();
        if (count <= 0) {
            throw new ArithmeticException("there are no hands");
        }
        int sum = 0;
        for (int i = 0; i < count; i++) {
            sum += hands.get(i).fatigue;
        }
        return (double) sum / (double) count;
    }

    public boolean isSound() {
        int told = sumEars() + sumHeaps() + drum.carries + sumBins() + ledger.sumGone();
        return told == sumCame() && heapsSound() && binsSound() && !gang.hasHurt();
    }

    private static void checkRange(int number, int least, int most) {
        if (number < least || number > most) {
            throw new IllegalArgumentException("a number is out of range");
        }
    }

    private void checkGang() {
        if (gang.count() < LEAST_IN_GANG) {
            throw new UnsupportedOperationException("fewer than two stand in the gang");
        }
    }

    private Hand handAt(int hand) {
        if (hand < 0 || hand >= hands.size()) {
            throw new IndexOutOfBoundsException("no such hand");
        }
        return hands.get(hand);
    }

    private Lot lotAt(int lot) {
        if (lot < 0 || lot >= lots.size()) {
            throw new IndexOutOfBoundsException("no such lot");
        }
        return lots.get(lot);
    }

    private Bin binAt(int bin) {
        if (bin < 0 || bin >= bins.size()) {
            throw new IndexOutOfBoundsException("no such bin");
        }
        return bins.get(bin);
    }

    private int bushelOf(int house) {
        if (house < 0 || house >= bushelPints.length) {
            throw new IndexOutOfBoundsException("no such house");
        }
        return bushelPints[house];
    }

    private int placeNeeded(Hand hand) {
        int place = gang.placeFor(hand);
        if (place < 0) {
            throw new NoSuchElementException("the hand does not stand in the gang");
        }
        return place;
    }

    private boolean bound(int custom) {
        return custom >= 0 && custom < customs.length && customs[custom];
    }

    private static int pintsByWay(int pints, char way) {
        if (way == 's') {
            return pints;
        }
        if (way == 'h') {
            return pints + pints / 8;
        }
        if (way == 'k') {
            return pints + pints / 16;
        }
        throw new IllegalArgumentException("no such way of measuring");
    }

    private static int assizeWeight(int price) {
        if (price < 10 || price > 200) {
            throw new IllegalArgumentException("a price is out of range");
        }
        return 2000 / price;
    }

    private void moveBushels(Lot from, Bin into, int pints, int bushels) {
        for (int moved = 0; moved < bushels; moved++) {
            int bruised = from.shareOf(from.bruised, pints);
            int foreign = from.shareOf(from.foreign, pints);
            from.giveBushel(pints, bruised, foreign);
            if (bound(TITHE) && from.measured % 10 == 0) {
                ledger.tithe += pints;
            } else {
                into.putIn(from.crop, pints, bruised, foreign);
            }
        }
    }

    private void restHands() {
        for (int i = 0; i < hands.size(); i++) {
            hands.get(i).rest();
        }
    }

    private void feedRats() {
        Bin fullest = fullestBin();
        int hunger = rats / 10 + 1;
        int eaten = Math.min(hunger, fullest.grain);
        fullest.takeOut(eaten);
        ledger.eaten += eaten;
        int bred = eaten == hunger ? rats + rats / 10 + 1 : rats - rats / 4;
        rats = Math.min(Math.max(bred - 2 * owls, 0), MOST_RATS);
    }

    private Bin fullestBin() {
        Bin fullest = binAt(0);
        for (int i = 1; i < bins.size(); i++) {
            if (bins.get(i).grain > fullest.grain) {
                fullest = bins.get(i);
            }
        }
        return fullest;
    }

    private int sumCame() {
        int sum = 0;
        for (int i = 0; i < lots.size(); i++) {
            sum += lots.get(i).came;
        }
        return sum;
    }

    private int sumEars() {
        int sum = 0;
        for (int i = 0; i < lots.size(); i++) {
            sum += lots.get(i).ears;
        }
        return sum;
    }

    private int sumHeaps() {
        int sum = 0;
        for (int i = 0; i < lots.size(); i++) {
            sum += lots.get(i).grain;
        }
        return sum;
    }

    private int sumBins() {
        int sum = 0;
        for (int i = 0; i < bins.size(); i++) {
            sum += bins.get(i).grain;
        }
        return sum;
    }

    private boolean heapsSound() {
        for (int i = 0; i < lots.size(); i++) {
            Lot lot = lots.get(i);
            if (lot.bruised > lot.grain || lot.foreign > lot.grain) {
                return false;
            }
        }
        return true;
    }

    private boolean binsSound() {
        for (int i = 0; i < bins.size(); i++) {
            Bin bin = bins.get(i);
            if (bin.bruised > bin.grain || bin.foreign > bin.grain) {
                return false;
            }
            if (bin.grain == 0 && bin.crop != NO_CROP) {
                return false;
            }
        }
        return true;
    }

    private static final class Hand {
        final int strength;
        final int habit;
        int fatigue = 0;
        int hurt = 0;
        int lost = 0;
        int error = 0;
        char way = ' ';
        int rate = 0;
        int owed = 0;
        int workedOn = NEVER;

        Hand(int strength, int habit) {
            this.strength = strength;
            this.habit = habit;
        }

        int drift() {
            if (habit == 0) {
                return 0;
            }
            int tired = fatigue / 20;
            return habit > 0 ? habit + tired : habit - tired;
        }

        void tire() {
            fatigue = Math.min(fatigue + 2, 100);
        }

        void rest() {
            fatigue = Math.max(fatigue - 30, 0);
            hurt = Math.max(hurt - 1, 0);
        }
    }

    private static final class Gang {
        private final ArrayList<Hand> order = new ArrayList<Hand>();

        int count() {
            return order.size();
        }

        int placeFor(Hand hand) {
            for (int place = 0; place < order.size(); place++) {
                if (order.get(place) == hand) {
                    return place;
                }
            }
            return -1;
        }

        void takeIn(Hand hand) {
            hand.error = 0;
            order.add(hand);
        }

        void letGo(Hand hand) {
            int place = placeFor(hand);
            if (place >= 0) {
                order.remove(place);
            }
        }

        int tickAt(int place) {
            int count = order.size();
            if (place < 0 || place >= count) {
                return 0;
            }
            return ROUND_TICKS * place / count + order.get(place).error;
        }

        /** Answers whether the beat held. */
        boolean beatRound() {
            leanOnOneAnother();
            Hand loser = findLoser();
            // Who is hurt is judged by the fatigue as the round began, so ahead of the round's own.
            boolean worn = loser != null && loser.fatigue >= 50;
            tireAll();
            if (loser == null) {
                return true;
            }
            loser.lost++;
            forgetErrors();
            if (worn) {
                loser.hurt = 7;
                letGo(loser);
            }
            return false;
        }

        private void leanOnOneAnother() {
            int count = order.size();
            int ahead = count > 0 ? order.get(count - 1).error : 0;
            for (int place = 0; place < count; place++) {
                Hand hand = order.get(place);
                int own = hand.error;
                hand.error = (own + ahead) / 2 + hand.drift();
                ahead = own;
            }
        }

        /** Answers null if the beat is not broken. */
        private Hand findLoser() {
            int count = order.size();
            for (int place = 0; place + 1 < count; place++) {
                if (tickAt(place + 1) - tickAt(place) < LEAST_GAP) {
                    return worseOf(order.get(place), order.get(place + 1));
                }
            }
            if (count > 0 && tickAt(0) + ROUND_TICKS - tickAt(count - 1) < LEAST_GAP) {
                return worseOf(order.get(count - 1), order.get(0));
            }
            return null;
        }

        private static Hand worseOf(Hand ahead, Hand behind) {
            return Math.abs(ahead.error) > Math.abs(behind.error) ? ahead : behind;
        }

        private void tireAll() {
            for (int place = 0; place < order.size(); place++) {
                order.get(place).tire();
            }
        }

        private void forgetErrors() {
            for (int place = 0; place < order.size(); place++) {
                order.get(place).error = 0;
            }
        }

        int freeFrom(Lot lot, boolean planks) {
            int freed = 0;
            for (int place = 0; place < order.size(); place++) {
                freed += lot.freeBy(order.get(place).strength, planks);
            }
            return freed;
        }

        void noteDaysWork(int day, int extra) {
            for (int place = 0; place < order.size(); place++) {
                Hand hand = order.get(place);
                if (hand.workedOn != day) {
                    hand.workedOn = day;
                    hand.owed += extra + (hand.way == 'd' ? hand.rate : 0);
                }
            }
        }

        void oweForBushels(int bushels) {
            for (int place = 0; place < order.size(); place++) {
                Hand hand = order.get(place);
                if (hand.way == 'm') {
                    hand.owed += hand.rate * bushels;
                }
            }
        }

        boolean hasHurt() {
            for (int place = 0; place < order.size(); place++) {
                if (order.get(place).hurt > 0) {
                    return true;
                }
            }
            return false;
        }
    }

    private static final class Lot {
        final int crop;
        final int came;
        final int damp;
        int ears;
        int grain = 0;
        int chaff = 0;
        int bruised = 0;
        int foreign = 0;
        int measured = 0;
        boolean cleared = false;

        Lot(int crop, int pints, int damp) {
            this.crop = crop;
            this.came = pints;
            this.damp = damp;
            this.ears = pints;
        }

        int freeBy(int strength, boolean planks) {
            int pints = ears * strength * (12 - damp) / 4000;
            if (planks) {
                pints += pints / 5;
            }
            pints = Math.min(Math.max(pints, 1), ears);
            ears -= pints;
            grain += pints;
            chaff += pints;
            if (planks && strength > 6) {
                bruised += pints / 10 * (strength - 6);
            }
            return pints;
        }

        /** Leaves the grain to the drum, which keeps a part of it back. */
        int freeByHour() {
            int pints = Math.min(ears / 4 + 1, ears);
            ears -= pints;
            chaff += pints;
            bruised += pints / 20;
            return pints;
        }

        int blow(int wind) {
            chaff -= chaff * wind / 10;
            if (wind <= 6) {
                return 0;
            }
            int hundredths = wind - 6;
            int blown = grain * hundredths / 100;
            grain -= blown;
            bruised -= bruised * hundredths / 100;
            foreign -= foreign * hundredths / 100;
            return blown;
        }

        int tithesAmong(int bushels) {
            return (measured + bushels) / 10 - measured / 10;
        }

        int shareOf(int part, int pints) {
            return grain > 0 ? part * pints / grain : 0;
        }

        void giveBushel(int pints, int bruisedPart, int foreignPart) {
            grain -= pints;
            bruised -= bruisedPart;
            foreign -= foreignPart;
            measured++;
        }
    }

    private static final class Bin {
        int crop = NO_CROP;
        int grain = 0;
        int bruised = 0;
        int foreign = 0;

        int soundGrain() {
            return grain - bruised;
        }

        void putIn(int newCrop, int pints, int bruisedPart, int foreignPart) {
            crop = newCrop;
            grain += pints;
            bruised += bruisedPart;
            foreign += foreignPart;
        }

        void takeOut(int pints) {
            grain -= pints;
            bruised = Math.min(bruised, grain);
            foreign = Math.min(foreign, grain);
            if (grain == 0) {
                crop = NO_CROP;
            }
        }
    }

    private static final class Drum {
        /** The first day on which it is hired no more. */
        int hiredTill = 0;
        int testedOn = NEVER;
        int carries = 0;
        int carriedCrop = NO_CROP;

        boolean hiredOn(int day) {
            return day < hiredTill;
        }

        boolean safeOn(int day) {
            return testedOn != NEVER && day - testedOn <= 200;
        }

        int beatLot(Lot lot, int hours) {
            lot.grain += carries;
            if (carriedCrop != lot.crop) {
                lot.foreign += carries;
            }
            int freed = 0;
            for (int hour = 0; hour < hours; hour++) {
                freed += lot.freeByHour();
            }
            carries = freed / 100;
            carriedCrop = lot.crop;
            lot.grain += freed - carries;
            return freed;
        }
    }

    /** The pints that are on the farm no more. */
    private static final class Ledger {
        int tithe = 0;
        int gleaned = 0;
        int straw = 0;
        int blown = 0;
        int burnt = 0;
        int cleaned = 0;
        int eaten = 0;
        int ground = 0;
        int sold = 0;

        /** Answers -1 if there is no such account. */
        int goneBy(char what) {
            if (what == 't') {
                return tithe;
            }
            if (what == 'g') {
                return gleaned;
            }
            if (what == 's') {
                return straw;
            }
            if (what == 'w') {
                return blown;
            }
            if (what == 'f') {
                return burnt;
            }
            if (what == 'x') {
                return cleaned;
            }
            if (what == 'r') {
                return eaten;
            }
            if (what == 'm') {
                return ground;
            }
            return what == 'o' ? sold : -1;
        }

        int sumGone() {
            return tithe + gleaned + straw + blown + burnt + cleaned + eaten + ground + sold;
        }
    }
}
