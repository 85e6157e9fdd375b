import java.lang.reflect.Array;
import java.lang.reflect.Field;

/**
 * Promise 32 where it does not hold: no run of calls makes a state that is not sound, so that the books
 * inside an object are spoiled here, by their names, one number at a time.
 */
public final class SoundTest {
    private static final int HOUSES = 6;
    private static final int METALS = 2;
    private static final int GOLD = 0;
    private static final int SILVER = 1;

    private static final Due due = new Due();

    public static void main(String[] args) throws ReflectiveOperationException {
        metal();
        eachMetalByItself();
        claims();
        ofHousesThatFailed();
        givings();
        meltedCoins();
        due.end();
    }

    /** The bank 4 failed; coins 0 to 2 and 4 are the bank's 1, the others the trader's 2, who has ore too. */
    private static Harbourmint state() {
        Harbourmint x = new Harbourmint();
        for (Call call : Call.all(Given.DEPOSITED)) {
            call.ask(x);
        }
        return x;
    }

    private static void metal() throws ReflectiveOperationException {
        for (int metal : new int[] {GOLD, SILVER}) {
            for (int by : new int[] {1, -1}) {
                spoils("metals", "dug", metal, by);
                for (int house = 0; house < HOUSES; house++) {
                    spoils("metals", "ores", house * METALS + metal, by);
                }
            }
        }
        for (int coin = 0; coin < 6; coin++) {
            spoils("purse", "weights", coin, 1);
            spoils("purse", "weights", coin, -1);
        }
    }

    /** What is missing of the one can not be made good by the other. */
    private static void eachMetalByItself() throws ReflectiveOperationException {
        Harbourmint x = state();
        add(x, "metals", "dug", GOLD, 1);
        add(x, "metals", "dug", SILVER, -1);
        due.is("isSound, of gold less and of silver more than was dug", x.isSound(), false);
        add(x, "metals", "ores", 2 * METALS + GOLD, 1);
        due.is("isSound, of silver more than was dug", x.isSound(), false);
        add(x, "metals", "ores", 3 * METALS + SILVER, -1);
        due.is("isSound, of both what was dug", x.isSound(), true);
    }

    private static void claims() throws ReflectiveOperationException {
        for (int house = 0; house < 4; house++) {
            for (int other = 0; other < 4; other++) {
                Harbourmint x = state();
                int claim = x.claim(house, other);
                add(x, "claims", "amounts", house * HOUSES + other, -claim - 1);
                due.is("isSound, the claim of " + house + " on " + other + " is -1", x.isSound(), false);
                // Claims of others that add up to 0 with it do not make it good.
                add(x, "claims", "amounts", house * HOUSES + (other + 1) % 4, 1);
                add(x, "claims", "amounts", (house + 1) % 4 * HOUSES + other, 1);
                due.is("isSound, and others are 1 more", x.isSound(), false);
                add(x, "claims", "amounts", house * HOUSES + other, 1);
                due.is("isSound, the claim of " + house + " on " + other + " is 0", x.isSound(), true);
            }
        }
    }

    private static void ofHousesThatFailed() throws ReflectiveOperationException {
        for (int house = 0; house < 4; house++) {
            spoils("claims", "amounts", 4 * HOUSES + house, 1);
            spoils("claims", "amounts", house * HOUSES + 4, 1);
        }
    }

    private static void givings() throws ReflectiveOperationException {
        for (int coin = 0; coin < 6; coin++) {
            spoils("purse", "houses", coin, 1);
            spoils("purse", "houses", coin, -1);
            spoils("purse", "lastTakers", coin, 1);
        }
    }

    /** A coin that was melted is no coin any more, and need not be anywhere. */
    private static void meltedCoins() throws ReflectiveOperationException {
        Harbourmint x = state();
        x.recoin(1, 'g');
        due.is("isSound after recoining", x.isSound(), true);
        due.is("the owner of a coin that was melted", x.ownerOf(0), -1);
        add(x, "purse", "lastTakers", 0, 1);
        due.is("isSound, a coin that was melted last given to another", x.isSound(), true);
    }

    private static void spoils(String book, String row, int place, int by) throws ReflectiveOperationException {
        Harbourmint x = state();
        String told = book + "." + row + "[" + place + "] changed by " + by;
        due.is("isSound ahead of " + told, x.isSound(), true);
        add(x, book, row, place, by);
        due.is("isSound, " + told, x.isSound(), false);
        add(x, book, row, place, -by);
        due.is("isSound, back from " + told, x.isSound(), true);
    }

    private static void add(Harbourmint x, String book, String row, int place, int by)
            throws ReflectiveOperationException {
        Object numbers = inside(inside(x, book), row);
        Array.setInt(numbers, place, Array.getInt(numbers, place) + by);
    }

    private static Object inside(Object whole, String name) throws ReflectiveOperationException {
        Field field = whole.getClass().getDeclaredField(name);
        field.setAccessible(true);
        return field.get(whole);
    }
}
