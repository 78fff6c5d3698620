/** Lines in states that many tests begin with. */
final class Lines {
    private Lines() {
    }

    /** Connected, both sides on, nothing on its way; each side has sent its LOGON. */
    static TradeLine on() {
        TradeLine line = new TradeLine();
        line.connect(false);
        settle(line);
        return line;
    }

    /** Lets all come, on both sides, until nothing is on its way. */
    static void settle(TradeLine line) {
        for (int i = 0; i < 100 && line.onWay(0) + line.onWay(1) > 0; i++) {
            line.come(TradeLine.TRADER, 100);
            line.come(TradeLine.HOUSE, 100);
        }
    }

    /** Sends an order and lets all come. */
    static int ordered(TradeLine line, boolean sells, int price, int size) {
        int order = line.order(sells, price, size);
        settle(line);
        return order;
    }

    /** The fields of a message as "tag=value tag=value". */
    static String message(TradeLine line, int side, int number) {
        StringBuilder all = new StringBuilder();
        for (int place = 0; place < line.fields(side, number); place++) {
            all.append(place == 0 ? "" : " ").append(line.tagAt(side, number, place));
            all.append('=').append(line.valueAt(side, number, place));
        }
        return all.toString();
    }

    /** The same without the sum. */
    static String body(TradeLine line, int side, int number) {
        String all = message(line, side, number);
        return all.substring(0, all.lastIndexOf(" 10="));
    }

    /** The message that a side sent last, without number and sum. */
    static String last(TradeLine line, int side) {
        int number = line.sent(side);
        return body(line, side, number).replace(" 34=" + number, "");
    }
}
