/** Objects that several tests begin with. */
final class Rooms {
    private Rooms() {
    }

    static Lostroom onDay(int day) {
        Lostroom room = new Lostroom();
        passTo(room, day);
        return room;
    }

    static void passTo(Lostroom room, int day) {
        while (room.today() < day) room.pass(Math.min(400, day - room.today()));
    }

    /** On the day 10, one find and one claim that fit by kind, place and day: a score of 80. */
    static Lostroom withBoth() {
        Lostroom room = onDay(10);
        room.find(0, 0, 0, 0, 0, 0, 0);
        room.claim(0, 0, 10, 10, 0);
        return room;
    }

    static Lostroom withFinds(int count) {
        Lostroom room = new Lostroom();
        for (int i = 0; i < count; i++) room.find(0, 0, 0, 0, 0, 0, 0);
        return room;
    }

    static Lostroom withClaims(int count) {
        Lostroom room = new Lostroom();
        for (int i = 0; i < count; i++) room.claim(0, 0, 0, 0, 0);
        return room;
    }

    /** The find 0, told on the day 10 in the room 2, is in a state; its term was over on the day 12, which is today. */
    static Lostroom withFindThatIs(int state) {
        Lostroom room = onDay(10);
        room.rule(0, 1, 10);
        room.find(0, 0, 0, 1, 6, 100, 2);
        room.pass(2);
        switch (state) {
            case Lostroom.ON_THE_WAY:
                room.send(0, 3);
                break;
            case Lostroom.MISSING:
                room.send(0, 3);
                room.lose(3);
                break;
            case Lostroom.RELEASED:
                room.release(0, anOwner(room));
                break;
            case Lostroom.SOLD:
                room.sell(0, 40);
                break;
            case Lostroom.DESTROYED:
                room.destroy(0);
                break;
            case Lostroom.PAID_OUT:
                room.sell(0, 40);
                room.payOut(0, anOwner(room));
                break;
            default:
                break;
        }
        return room;
    }

    /** Tells a claim that the find 0 of the above is a candidate of, and that proves it; returns its number. */
    static int anOwner(Lostroom room) {
        int claim = room.claim(0, 0, 10, 10, 0);
        room.tell(claim, 6);
        return claim;
    }
}
