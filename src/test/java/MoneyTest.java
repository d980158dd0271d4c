/** Money: rewards that are rounded down, fees of small prices, the sums of all, and what is kept. */
public final class MoneyTest {
    private static final Checks c = new Checks();

    public static void main(String[] args) {
        rewards();
        rewardsOfAlikeKinds();
        sumsOfReleases();
        prices();
        proceeds();
        paidOut();
        refusedCallsCostNothing();
        c.end();
    }

    private static Lostroom withValue(int value, int rate) {
        Lostroom room = new Lostroom();
        room.rule(3, 60, rate);
        room.find(3, 0, 0, 0, 0, value, 0);
        room.claim(3, 0, 0, 0, 0);
        return room;
    }

    private static void rewards() {
        c.promise("promise 17: the value times the reward of the kind, by 100; divisions are rounded down");
        int[][] rewards = {{0, 0, 0}, {0, 50, 0}, {9999, 0, 0}, {1, 50, 0}, {2, 50, 1}, {3, 50, 1}, {99, 1, 0},
            {100, 1, 1}, {101, 1, 1}, {199, 1, 1}, {200, 1, 2}, {9999, 1, 99}, {33, 3, 0}, {34, 3, 1}, {67, 3, 2},
            {9998, 50, 4999}, {9999, 50, 4999}, {9999, 49, 4899}, {199, 33, 65}};
        for (int[] each : rewards) {
            Lostroom room = withValue(each[0], each[1]);
            c.is("value " + each[0] + ", rate " + each[1], 5 + each[2], room.release(0, 0));
            c.is("the fee", 5, room.money(0));
            c.is("the reward", each[2], room.money(1));
            c.is("no proceeds", 0, room.money(2));
        }
    }

    private static void rewardsOfAlikeKinds() {
        c.promise("promise 17: the reward of the kind of the find, as it is now");
        Lostroom room = new Lostroom();
        room.alike(0, 1);
        room.rule(0, 60, 10);
        room.rule(1, 60, 20);
        room.find(0, 0, 0, 0, 0, 1000, 0);
        room.find(0, 0, 0, 0, 0, 1000, 0);
        room.claim(1, 0, 0, 0, 0);
        room.claim(1, 0, 0, 0, 0);
        c.is("not of the claim's kind", 105, room.release(0, 0));
        room.rule(0, 60, 30);
        c.is("told later", 305, room.release(1, 1));
        c.is("all rewards", 400, room.money(1));
    }

    private static void sumsOfReleases() {
        c.promise("promise 32: all fees, all rewards");
        Lostroom room = new Lostroom();
        room.rule(0, 60, 50);
        for (int i = 0; i < 20; i++) {
            room.find(0, 0, 0, 0, 0, 9999, 0);
            room.claim(0, 0, 0, 0, 0);
            c.is("released", 5004, room.release(i, i));
            c.is("fees", 5 * (i + 1), room.money(0));
            c.is("rewards", 4999 * (i + 1), room.money(1));
        }
    }

    private static Lostroom soldFor(int price) {
        Lostroom room = Rooms.withFindThatIs(Lostroom.KEPT);
        room.sell(0, price);
        Rooms.anOwner(room);
        return room;
    }

    private static void prices() {
        c.promise("promise 21: the price, less a fee of 5, or of all of it if it is less");
        int[] prices = {1, 2, 3, 4, 5, 6, 7, 10, 9998, 9999};
        for (int price : prices) {
            int fee = price < 5 ? price : 5;
            Lostroom room = soldFor(price);
            c.is("kept of " + price, price, room.money(2));
            c.is("no fee yet", 0, room.money(0));
            c.is("paid of " + price, price - fee, room.payOut(0, 0));
            c.is("the fee of " + price, fee, room.money(0));
            c.is("no reward", 0, room.money(1));
            c.is("kept no more", 0, room.money(2));
        }
    }

    private static Lostroom withThirtyDue() {
        Lostroom room = Rooms.withFinds(30);
        room.pass(61);
        return room;
    }

    private static void proceeds() {
        c.promise("promise 19: all proceeds that are kept then");
        Lostroom room = withThirtyDue();
        for (int i = 0; i < 30; i++) c.is("sold " + (i + 1), 9999 * (i + 1), room.sell(i, 9999));
        c.is("all", 299970, room.money(2));
        c.is("no fees", 0, room.money(0));
        room.claim(0, 0, 0, 0, 0);
        c.is("paid out", 9994, room.payOut(29, 0));
        c.is("all but that", 289971, room.money(2));
        c.is("its fee", 5, room.money(0));
        Lostroom some = withThirtyDue();
        c.is("the lowest price", 1, some.sell(7, 1));
        c.is("the highest price, too", 10000, some.sell(3, 9999));
        some.destroy(5);
        c.is("what is destroyed brings nothing", 10000, some.money(2));
        some.pass(400);
        c.is("it is kept for ever", 10000, some.money(2));
    }

    private static void paidOut() {
        c.promise("promise 21: its price is kept no more");
        Lostroom room = withThirtyDue();
        for (int i = 0; i < 20; i++) room.sell(i, i + 1);
        for (int i = 0; i < 20; i++) room.claim(0, 0, 0, 0, 0);
        int kept = 210;
        int fees = 0;
        for (int i = 0; i < 20; i++) {
            int price = 20 - i;
            c.is("paid of " + price, Math.max(0, price - 5), room.payOut(19 - i, i));
            kept -= price;
            fees += Math.min(5, price);
            c.is("kept", kept, room.money(2));
            c.is("fees", fees, room.money(0));
        }
        c.is("nothing is kept", 0, room.money(2));
    }

    private static void refusedCallsCostNothing() {
        c.promise("a call that throws changes nothing");
        c.state("payOut to one that was paid", MoneyTest::paid, r -> r.payOut(0, 0));
        c.state("payOut of what was paid", MoneyTest::paidWithOther, r -> r.payOut(0, 1));
        c.state("release of what was paid", MoneyTest::paidWithOther, r -> r.release(0, 1));
        c.state("sell of what was paid", MoneyTest::paid, r -> r.sell(0, 1));
        c.state("sell again", () -> soldFor(40), r -> r.sell(0, 50));
        c.state("release of what was sold", () -> soldFor(40), r -> r.release(0, 0));
        c.state("destroy of what was sold", () -> soldFor(40), r -> r.destroy(0));
    }

    private static Lostroom paid() {
        Lostroom room = soldFor(40);
        room.payOut(0, 0);
        return room;
    }

    private static Lostroom paidWithOther() {
        Lostroom room = paid();
        Rooms.anOwner(room);
        return room;
    }
}
