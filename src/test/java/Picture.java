/** All that can be asked of an object without changing it, as a text, so that two states can be compared. */
final class Picture {
    private Picture() {
    }

    static String of(Lostroom room) {
        StringBuilder text = new StringBuilder();
        int finds = countFinds(room);
        int claims = countClaims(room);
        text.append("day ").append(room.today()).append(", money");
        for (int what = 0; what < 3; what++) text.append(' ').append(room.money(what));
        text.append(", rooms");
        for (int i = 0; i < 6; i++) text.append(' ').append(room.audit(i));
        for (int find = 0; find < finds; find++) appendFind(text, room, find);
        for (int claim = 0; claim < claims; claim++) appendClaim(text, room, claim, finds);
        return text.toString();
    }

    static int countFinds(Lostroom room) {
        int count = 0;
        while (has(room, count, true)) count++;
        return count;
    }

    static int countClaims(Lostroom room) {
        int count = 0;
        while (has(room, count, false)) count++;
        return count;
    }

    private static boolean has(Lostroom room, int number, boolean isFind) {
        try {
            if (isFind) room.ofFind(number, 0); else room.ofClaim(number, 0);
            return true;
        } catch (IndexOutOfBoundsException e) {
            return false;
        }
    }

    private static void appendFind(StringBuilder text, Lostroom room, int find) {
        text.append("; find ").append(find).append(':');
        for (int what = 0; what < 5; what++) text.append(' ').append(room.ofFind(find, what));
        text.append(room.isDue(find) ? " due" : " not due");
        for (int place = 0; place < room.ofFind(find, 4); place++) {
            text.append(' ').append(room.hand(find, place, false)).append('@').append(room.hand(find, place, true));
        }
    }

    private static void appendClaim(StringBuilder text, Lostroom room, int claim, int finds) {
        text.append("; claim ").append(claim).append(':');
        for (int what = 0; what < 4; what++) text.append(' ').append(room.ofClaim(claim, what));
        text.append(" asks ").append(room.question(claim)).append(" candidates");
        for (int place = 0; place <= finds; place++) text.append(' ').append(room.candidate(claim, place));
        text.append(" fits");
        for (int find = 0; find < finds; find++) {
            text.append(' ').append(room.fit(find, claim)).append(room.isProven(find, claim) ? "p" : "");
        }
    }
}
