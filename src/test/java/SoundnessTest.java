import java.lang.reflect.Field;
import java.util.ArrayList;

/**
 * Promise 44: no run of calls makes a farm unsound, so this test spoils one field behind the farm's back, and looks
 * whether isSound tells. It knows the names of private fields, and goes with them.
 */
public final class SoundnessTest {
    private SoundnessTest() {
    }

    public static void main(String[] args) throws ReflectiveOperationException {
        grainThatDoesNotClose();
        heapsAndBins();
        hurtInTheGang();
        Check.finish("SoundnessTest");
    }

    private static ThresholdRow fullFarm() {
        ThresholdRow farm = Farms.withHeap(1, 2);
        farm.measure(0, 0, 0, 's', 9);
        farm.measure(0, 5, 0, 's', 2);
        farm.addHand(5, 0);
        farm.addHand(5, 0);
        Farms.stand(farm, 0, 1);
        return farm;
    }

    private static Object part(Object whole, String name) throws ReflectiveOperationException {
        Field field = whole.getClass().getDeclaredField(name);
        field.setAccessible(true);
        return field.get(whole);
    }

    private static Object element(Object whole, String name, int index) throws ReflectiveOperationException {
        return ((ArrayList<?>) part(whole, name)).get(index);
    }

    private static void put(Object whole, String name, int value) throws ReflectiveOperationException {
        Field field = whole.getClass().getDeclaredField(name);
        field.setAccessible(true);
        field.setInt(whole, value);
    }

    /** The field's other value must make the farm unsound, and its own one sound again. */
    private static void spoil(ThresholdRow farm, Object whole, String name, int value)
            throws ReflectiveOperationException {
        int own = (Integer) part(whole, name);
        Check.same(name + " as it is", farm.isSound(), true);
        put(whole, name, value);
        Check.same(name + " as " + value, farm.isSound(), false);
        put(whole, name, own);
        Check.same(name + " as it was", farm.isSound(), true);
    }

    private static void grainThatDoesNotClose() throws ReflectiveOperationException {
        ThresholdRow farm = fullFarm();
        for (int lot = 0; lot < 2; lot++) {
            spoil(farm, element(farm, "lots", lot), "ears", 7);
            spoil(farm, element(farm, "lots", lot), "grain", 9999);
        }
        spoil(farm, element(farm, "bins", 0), "grain", 577);
        spoil(farm, element(farm, "bins", 5), "grain", 129);
        spoil(farm, part(farm, "drum"), "carries", 1);
        for (String account : new String[] {
            "tithe", "gleaned", "straw", "blown", "burnt", "cleaned", "eaten", "ground", "sold",
        }) {
            spoil(farm, part(farm, "ledger"), account, 1);
        }
    }

    private static void heapsAndBins() throws ReflectiveOperationException {
        ThresholdRow farm = fullFarm();
        spoil(farm, element(farm, "lots", 0), "bruised", 9159);
        spoil(farm, element(farm, "lots", 0), "foreign", 9159);
        spoil(farm, element(farm, "lots", 1), "bruised", 1);
        spoil(farm, element(farm, "lots", 1), "foreign", 1);
        spoil(farm, element(farm, "bins", 0), "bruised", 577);
        spoil(farm, element(farm, "bins", 0), "foreign", 577);
        spoil(farm, element(farm, "bins", 5), "bruised", 129);
        spoil(farm, element(farm, "bins", 4), "foreign", 1);
        spoil(farm, element(farm, "bins", 4), "crop", 2);
        put(element(farm, "bins", 5), "bruised", 64);
        put(element(farm, "bins", 5), "foreign", 64);
        Check.same("as much as there is", farm.isSound(), true);
    }

    private static void hurtInTheGang() throws ReflectiveOperationException {
        ThresholdRow farm = fullFarm();
        spoil(farm, element(farm, "hands", 0), "hurt", 1);
        spoil(farm, element(farm, "hands", 1), "hurt", 7);
        farm.leave(1);
        put(element(farm, "hands", 1), "hurt", 7);
        Check.same("hurt, but not in the gang", farm.isSound(), true);
    }
}
