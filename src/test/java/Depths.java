/**
 * What an object holds, as texts that can be compared. The first of them only asks; the others call what changes, to
 * see what can't be asked, so each of them wants an object of its own.
 */
final class Depths {
    static final int COUNT = 5;
    private static final int MOST_CALLS = 400;

    private Depths() {
    }

    static String of(Lostroom room, int depth) {
        switch (depth) {
            case 0: return Picture.of(room);
            case 1: return rulesStopsAndHolds(room);
            case 2: return nearWordsAndAlikeKinds(room);
            case 3: return rewardsAndNextNumbers(room);
            default: return laterDays(room);
        }
    }

    private interface Asked {
        Object answer();
    }

    private static void append(StringBuilder text, Asked asked) {
        try {
            text.append(' ').append(asked.answer());
        } catch (IndexOutOfBoundsException | IllegalArgumentException | IllegalStateException e) {
            text.append(' ').append(e.getClass().getSimpleName());
        }
    }

    private static String rulesStopsAndHolds(Lostroom room) {
        StringBuilder text = new StringBuilder("threshold ").append(room.threshold(1)).append(", terms");
        for (int kind = 0; kind < 8; kind++) text.append(' ').append(room.rule(kind, 1, 0));
        text.append(", stops");
        for (int i = 0; i < 24; i++) {
            int stop = i;
            append(text, () -> room.stop(stop / 6, stop % 6));
        }
        text.append(", held");
        for (int i = Picture.countFinds(room) - 1; i >= 0; i--) {
            int find = i;
            append(text, () -> room.hold(find, false));
        }
        return text.toString();
    }

    private static String nearWordsAndAlikeKinds(Lostroom room) {
        StringBuilder text = new StringBuilder("near");
        for (int word = 0; word < 24; word++) {
            for (int other = 0; other < word; other++) text.append(' ').append(room.near(word, other));
        }
        text.append(", alike");
        for (int kind = 0; kind < 8; kind++) {
            for (int other = 0; other < kind; other++) text.append(' ').append(room.alike(kind, other));
        }
        return text.toString();
    }

    /** What claims are OPEN is closed first, or they would beat those by which the rewards are seen. */
    private static String rewardsAndNextNumbers(Lostroom room) {
        StringBuilder text = new StringBuilder("claims closed");
        for (int i = Picture.countClaims(room) - 1; i >= 0; i--) {
            int claim = i;
            append(text, () -> room.withdraw(claim));
        }
        room.threshold(1);
        text.append(", finds, claims and rewards");
        for (int i = 0; i < 8; i++) {
            int kind = i;
            append(text, () -> room.find(kind, 0, 0, 0, 0, 100, 0));
            append(text, () -> room.claim(kind, 0, 0, room.today(), 0));
            int find = Picture.countFinds(room) - 1;
            int claim = Picture.countClaims(room) - 1;
            append(text, () -> room.release(find, claim));
        }
        return text.toString();
    }

    /** What comes on the next day, and when each claim that is SERVED or CLOSED is ERASED. */
    private static String laterDays(Lostroom room) {
        StringBuilder text = new StringBuilder("later");
        int claims = Picture.countClaims(room);
        int calls = claims;
        for (int day = 0; day < 91 && calls < MOST_CALLS; day++) {
            append(text, () -> room.pass(1));
            calls++;
            for (int i = 0; i < claims; i++) {
                int claim = i;
                append(text, () -> room.ofClaim(claim, 0));
                calls++;
            }
            if (day == 0) {
                for (int i = 0; i < 6; i++) text.append(", room ").append(room.audit(i));
            }
        }
        return text.toString();
    }
}
