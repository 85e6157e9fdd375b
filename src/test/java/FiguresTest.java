/** Promises 30 to 32: lightShare, meanWeight, isSound. */
public final class FiguresTest {
    private static final Due due = new Due();

    public static void main(String[] args) {
        lightShare();
        lightShareOfEachOne();
        meanWeight();
        none();
        isSound();
        due.end();
    }

    private static void lightShare() {
        Harbourmint x = States.minted(2, 'g', 3);
        due.is("none is light", x.lightShare(), 0.0f);
        x.clip(1, 1);
        due.is("one of three", x.lightShare(), 1.0f / 3.0f);
        x.dig(0, 's', 20);
        x.mint(0, 's', 4);
        due.is("one of seven", x.lightShare(), 1.0f / 7.0f);
        x.decree('s', 1, 6);
        due.is("the silver is light now", x.lightShare(), 5.0f / 7.0f);
        x.hoard(3, true);
        due.is("hoarded ones count", x.lightShare(), 5.0f / 7.0f);
        x.decree('s', 1, 4);
        due.is("heavier ones are not light", x.lightShare(), 1.0f / 7.0f);
        x.decree('g', 10, 3);
        due.is("none is light any more", x.lightShare(), 0.0f);
        x.decree('g', 10, 9);
        x.recoin(2, 'g');
        due.is("melted ones do not count", x.lightShare(), 0.0f);
        x.decree('s', 1, 5);
        x.decree('g', 1, 9);
        x.clip(7, 1);
        due.is("a new one that was clipped", x.lightShare(), 1.0f / 5.0f);
    }

    private static void lightShareOfEachOne() {
        Harbourmint x = States.minted(2, 'g', 3);
        for (int coin = 0; coin < 3; coin++) {
            x.clip(coin, 1);
            due.is("light up to coin " + coin, x.lightShare(), (1.0f + coin) / 3.0f);
        }
    }

    private static void meanWeight() {
        Harbourmint x = States.minted(2, 'g', 3);
        due.is("all of weight 5", x.meanWeight(), 5.0);
        x.clip(0, 1);
        due.is("14 by 3", x.meanWeight(), 14.0 / 3.0);
        x.decree('s', 1, 9);
        x.dig(3, 's', 99);
        x.mint(3, 's', 4);
        x.hoard(6, true);
        due.is("50 by 7", x.meanWeight(), 50.0 / 7.0);
        x.decree('g', 10, 8);
        x.recoin(2, 'g');
        due.is("44 by 5, the melted ones not counted", x.meanWeight(), 44.0 / 5.0);
    }

    private static void none() {
        Harbourmint x = States.harbour();
        due.isThrown(Wrong.ARITHMETIC, "lightShare() of no coin", x::lightShare);
        due.isThrown(Wrong.ARITHMETIC, "meanWeight() of no coin", x::meanWeight);
        x.dig(2, 'g', 5);
        x.mint(2, 'g', 1);
        x.decree('g', 10, 9);
        x.recoin(2, 'g');
        due.isThrown(Wrong.ARITHMETIC, "lightShare() of melted ones", x::lightShare);
        due.isThrown(Wrong.ARITHMETIC, "meanWeight() of melted ones", x::meanWeight);
    }

    /** No call of the face makes a state that is not sound, so each step here has to stay sound. */
    private static void isSound() {
        Harbourmint x = States.harbour();
        Runnable[] steps = {
            () -> x.dig(2, 'g', 99), () -> x.dig(3, 's', 50), () -> x.mint(2, 'g', 6),
            () -> x.mint(3, 's', 4), () -> x.clip(0, 4), () -> x.clip(7, 2), () -> x.hoard(1, true),
            () -> x.pay(2, 3, 'g', 2), () -> x.deposit(2, 1, 'g', 2), () -> x.deposit(3, 1, 's', 2),
            () -> x.lend(1, 3, 200), () -> x.lend(1, 0, 77), () -> x.hand(3, 2, 1, 50),
            () -> x.forgive(1, 3, 20), () -> x.draw(3, 1, 40, 1), () -> x.draw(2, 0, 30, 1),
            () -> x.endorse(0, 2), () -> x.addShare(0, 1, 5), () -> x.addShare(0, 2, 6),
            () -> x.throwOver(0, 2, 9), () -> x.withdraw(2, 1, 'g', 1), () -> x.decree('g', 3, 2),
            () -> x.recoin(3, 'g'), () -> x.dig(1, 'g', 8), x::nextDay,
            () -> x.withdraw(3, 1, 's', 9), () -> x.recoin(0, 'g'), x::nextDay,
        };
        due.is("isSound() at first", x.isSound(), true);
        for (int step = 0; step < steps.length; step++) {
            steps[step].run();
            due.is("isSound() after step " + step, x.isSound(), true);
        }
        due.is("the bank failed on the way", x.kindOf(1), 'x');
    }
}
