import java.util.ArrayList;
import java.util.Arrays;

/**
 * A trading line between a trader and a house, as DOC.md says it: the session with its numbers,
 * gaps and ticks, the house that routes orders to venues, and the books of both sides.
 */
public final class TradeLine {
    public static final int NONE = -1;
    public static final int TRADER = 0, HOUSE = 1;
    public static final int LOGON = 0, BEAT = 1, TEST = 2, RESEND = 3, FILL = 4, ORDER = 5, CANCEL = 6, REPLACE = 7, REPORT = 8;
    public static final int ACK = 0, FILLED = 1, OUT = 2, REPLACED = 3, REFUSED = 4, BUSTED = 5, CORRECTED = 6;
    public static final int PENDING = 0, LIVE = 1, OVER = 2;

    private static final int TAG_KIND = 35, TAG_NUMBER = 34, TAG_SUM = 10, TAG_FIRST = 7;
    private static final int TAG_NEW_ORDER = 11, TAG_ASKED_ORDER = 41, TAG_TOLD_ORDER = 37;
    private static final int TAG_DIRECTION = 54, TAG_PRICE = 44, TAG_SIZE = 38;
    private static final int TAG_SORT = 150, TAG_COUNT = 382, TAG_EXECUTION = 17, TAG_VENUE = 30;
    private static final int TAG_MADE_PRICE = 31, TAG_MADE_SIZE = 32;
    private static final int[] NO_FIELDS = {};

    private static final int FIRST_EXECUTION_PLACE = 5, PLACES_OF_EXECUTION = 4;

    private static final int MOST_COMING = 100, MOST_TICKS = 50, MOST_ORDERS = 40, MOST_REQUESTS = 5;
    private static final int MOST_PRICE = 100, MOST_SIZE = 100, MOST_QUOTED = 200;
    private static final int MOST_EXECUTIONS = 100, VENUES = 3;
    private static final int BEAT_AFTER = 10, TEST_AFTER = 15, DOWN_AFTER = 25;
    private static final int ASK_AGAIN_AFTER = 5, STALE_AFTER = 20;

    // What goes as it is kept, and the next number of a FILL, share one int: a FILL's is 2 at least.
    private static final int NOTHING = 0, AS_KEPT = 1;

    // Far above what 512 calls can send and put on their way.
    private static final int MOST_KEPT = 1 << 20, MOST_ON_WAY = 1 << 20;

    private final Party trader = new Party();
    private final Party house = new Party();
    private final ArrayList<Order> allOrders = new ArrayList<Order>();
    private final ArrayList<Order> buyersByRank = new ArrayList<Order>();
    private final ArrayList<Order> sellersByRank = new ArrayList<Order>();
    private final ArrayList<Execution> allExecutions = new ArrayList<Execution>();
    private final Quote[] quotesForBuyers = new Quote[VENUES];
    private final Quote[] quotesForSellers = new Quote[VENUES];
    private boolean up;
    private int now;
    private int today;

    public TradeLine() {
        for (int venue = 0; venue < VENUES; venue++) {
            quotesForBuyers[venue] = new Quote(venue);
            quotesForSellers[venue] = new Quote(venue);
        }
    }

    // ---- the line

    public void connect(boolean resets) throws IllegalStateException {
        if (up) {
            throw new IllegalStateException("the line is up");
        }
        if (resets) {
            trader.numberAnew();
            house.numberAnew();
        }
        up = true;
        trader.lastCame = now;
        house.lastCame = now;
        send(TRADER, LOGON, NO_FIELDS);
        send(HOUSE, LOGON, NO_FIELDS);
    }

    public int cut() throws IllegalStateException {
        if (!up) {
            throw new IllegalStateException("the line is down");
        }
        int lost = trader.way.count + house.way.count;
        goDown();
        return lost;
    }

    public int come(int side, int many) throws IndexOutOfBoundsException, IllegalArgumentException {
        requireSide(side);
        if (many < 1 || many > MOST_COMING) {
            throw new IllegalArgumentException("many is out of range");
        }
        Way way = party(side).way;
        int coming = Math.min(many, way.count);
        for (int i = 0; i < coming; i++) {
            int number = way.numberAt(0);
            int next = way.nextAt(0);
            boolean garbled = way.isGarbledAt(0);
            way.dropFirst();
            if (!garbled && receive(side, number, next)) {
                workInTurn(side, next);
            }
        }
        return coming;
    }

    public int garble(int side, int place) throws IndexOutOfBoundsException {
        requireSide(side);
        Way way = party(side).way;
        if (place < 0 || place >= way.count) {
            throw new IndexOutOfBoundsException("no such message on its way");
        }
        way.garbleAt(place);
        return way.numberAt(place);
    }

    public int pass(int ticks) throws IllegalArgumentException {
        if (ticks < 1 || ticks > MOST_TICKS) {
            throw new IllegalArgumentException("ticks is out of range");
        }
        int before = trader.kept.size() + house.kept.size();
        for (int i = 0; i < ticks; i++) {
            now++;
            tick(TRADER);
            tick(HOUSE);
        }
        return trader.kept.size() + house.kept.size() - before;
    }

    public boolean isUp() {
        return up;
    }

    public boolean isOn(int side) throws IndexOutOfBoundsException {
        requireSide(side);
        return party(side).on;
    }

    public int onWay(int side) throws IndexOutOfBoundsException {
        requireSide(side);
        return party(side).way.count;
    }

    public int sent(int side) throws IndexOutOfBoundsException {
        requireSide(side);
        return party(side).kept.size();
    }

    public int expected(int side) throws IndexOutOfBoundsException {
        requireSide(side);
        return party(side).expectedNumber;
    }

    public int held(int side) throws IndexOutOfBoundsException {
        requireSide(side);
        return party(side).back.count;
    }

    // ---- fields of messages that are kept

    public int fields(int side, int number) throws IndexOutOfBoundsException {
        return requireMessage(side, number).fieldCount();
    }

    public int tagAt(int side, int number, int place) throws IndexOutOfBoundsException {
        Message message = requireMessage(side, number);
        if (!message.hasPlace(place)) {
            throw new IndexOutOfBoundsException("no such field");
        }
        return message.tagOfPlace(place);
    }

    public int valueAt(int side, int number, int place) throws IndexOutOfBoundsException {
        Message message = requireMessage(side, number);
        if (!message.hasPlace(place)) {
            throw new IndexOutOfBoundsException("no such field");
        }
        return message.valueOfPlace(place);
    }

    // ---- the trader's orders

    public int order(boolean sells, int price, int size) throws IllegalArgumentException, IllegalStateException {
        requireRange(price, 1, MOST_PRICE);
        requireRange(size, 1, MOST_SIZE);
        int number = allOrders.size();
        if (!trader.on || number >= MOST_ORDERS) {
            throw new IllegalStateException("the trader is not on, or has sent all orders");
        }
        allOrders.add(new Order(number, sells, price, size));
        send(TRADER, ORDER, new int[] {TAG_NEW_ORDER, number, TAG_DIRECTION, sells ? 1 : 0, TAG_PRICE, price, TAG_SIZE, size});
        return number;
    }

    public int cancel(int order) throws IndexOutOfBoundsException, IllegalStateException {
        Order asked = requireOrder(order);
        requireAskable(asked);
        asked.requests++;
        send(TRADER, CANCEL, new int[] {TAG_ASKED_ORDER, order});
        return asked.requests;
    }

    public int replace(int order, int price, int size) throws IndexOutOfBoundsException, IllegalArgumentException, IllegalStateException {
        Order asked = requireOrder(order);
        requireRange(price, 1, MOST_PRICE);
        requireRange(size, 1, MOST_SIZE);
        requireAskable(asked);
        asked.requests++;
        send(TRADER, REPLACE, new int[] {TAG_ASKED_ORDER, order, TAG_PRICE, price, TAG_SIZE, size});
        return asked.requests;
    }

    public int stateOf(int order) throws IndexOutOfBoundsException {
        return requireOrder(order).state();
    }

    public boolean isLeftOut(int order) throws IndexOutOfBoundsException {
        Order asked = requireOrder(order);
        return asked.leftOut && !asked.acknowledged;
    }

    public int underWay(int order) throws IndexOutOfBoundsException {
        return requireOrder(order).requests;
    }

    // ---- the house, venues, executions

    public int quote(int venue, boolean sells, int price, int size) throws IndexOutOfBoundsException, IllegalArgumentException {
        Quote told = requireQuote(venue, sells);
        requireRange(price, 1, MOST_PRICE);
        requireRange(size, 0, MOST_QUOTED);
        told.price = price;
        told.size = size;
        int before = allExecutions.size();
        ArrayList<Order> ranked = byRank(sells);
        for (int i = 0; i < ranked.size(); i++) {
            route(ranked.get(i));
        }
        return allExecutions.size() - before;
    }

    public int quoted(int venue, boolean sells) throws IndexOutOfBoundsException {
        return requireQuote(venue, sells).size;
    }

    public int bust(int execution) throws IndexOutOfBoundsException, IllegalStateException {
        Execution made = requireExecution(execution);
        requireUnbusted(made);
        made.busted = true;
        Book book = made.order.houseBook;
        book.takeBack(made.size);
        send(HOUSE, REPORT, new int[] {TAG_SORT, BUSTED, TAG_TOLD_ORDER, made.order.number, TAG_EXECUTION, execution});
        return book.doneSize;
    }

    public int correct(int execution, int price) throws IndexOutOfBoundsException, IllegalArgumentException, IllegalStateException {
        Execution made = requireExecution(execution);
        requireRange(price, 1, MOST_PRICE);
        requireUnbusted(made);
        int before = made.price;
        made.price = price;
        send(HOUSE, REPORT, new int[] {TAG_SORT, CORRECTED, TAG_TOLD_ORDER, made.order.number, TAG_EXECUTION, execution, TAG_MADE_PRICE, price});
        return before;
    }

    public int executions() {
        return allExecutions.size();
    }

    public int endDay() {
        today++;
        return today;
    }

    // ---- books

    public int orders() {
        return allOrders.size();
    }

    public int left(int side, int order) throws IndexOutOfBoundsException {
        requireSide(side);
        Order asked = requireOrder(order);
        return asked.isInBook(side) ? asked.leftFor(side) : NONE;
    }

    public int done(int side, int order) throws IndexOutOfBoundsException {
        requireSide(side);
        Order asked = requireOrder(order);
        return asked.isInBook(side) ? asked.book(side).doneSize : NONE;
    }

    public int doneByLog(int side, int order) throws IndexOutOfBoundsException {
        requireSide(side);
        Order asked = requireOrder(order);
        if (!asked.isInBook(side)) {
            return NONE;
        }
        int sum = 0;
        for (int i = 0; i < allExecutions.size(); i++) {
            Execution made = allExecutions.get(i);
            if (made.order == asked && made.countsFor(side)) {
                sum += made.size;
            }
        }
        return sum;
    }

    public int out(int side, int order) throws IndexOutOfBoundsException {
        requireSide(side);
        Order asked = requireOrder(order);
        return asked.isInBook(side) ? asked.book(side).outSize : NONE;
    }

    public int venues(int order) throws IndexOutOfBoundsException {
        Order asked = requireOrder(order);
        int count = 0;
        for (int venue = 0; venue < VENUES; venue++) {
            if (hasExecutedAt(asked, venue)) {
                count++;
            }
        }
        return count;
    }

    public int total(int side, int day, boolean sells, int what) throws IndexOutOfBoundsException, IllegalArgumentException {
        requireSide(side);
        if (day < 0 || day > today) {
            throw new IndexOutOfBoundsException("no such day");
        }
        requireRange(what, 0, 1);
        int sum = 0;
        for (int i = 0; i < allExecutions.size(); i++) {
            Execution made = allExecutions.get(i);
            if (made.day == day && made.order.sells == sells && made.countsFor(side)) {
                sum += what == 0 ? made.size : made.size * made.priceFor(side);
            }
        }
        return sum;
    }

    public boolean agree() {
        for (int i = 0; i < allOrders.size(); i++) {
            Order asked = allOrders.get(i);
            if (asked.atHouse && !asked.booksAgree()) {
                return false;
            }
        }
        return true;
    }

    // ---- what the calls require of their arguments

    private static void requireSide(int side) {
        if (side != TRADER && side != HOUSE) {
            throw new IndexOutOfBoundsException("no such side");
        }
    }

    private static void requireRange(int given, int least, int most) {
        if (given < least || given > most) {
            throw new IllegalArgumentException("an argument is out of its range");
        }
    }

    private Message requireMessage(int side, int number) {
        requireSide(side);
        Message message = party(side).message(number);
        if (message == null) {
            throw new IndexOutOfBoundsException("no such message");
        }
        return message;
    }

    private Order requireOrder(int order) {
        Order found = findOrder(order);
        if (found == null) {
            throw new IndexOutOfBoundsException("no such order");
        }
        return found;
    }

    private void requireAskable(Order asked) {
        if (!trader.on || asked.state() == OVER || asked.requests >= MOST_REQUESTS) {
            throw new IllegalStateException("nothing can be asked of the order");
        }
    }

    private Quote requireQuote(int venue, boolean sells) {
        Quote[] quotes = quotesFor(sells);
        if (venue < 0 || venue >= quotes.length) {
            throw new IndexOutOfBoundsException("no such venue");
        }
        return quotes[venue];
    }

    private Execution requireExecution(int execution) {
        Execution found = findExecution(execution);
        if (found == null) {
            throw new IndexOutOfBoundsException("no such execution");
        }
        return found;
    }

    private static void requireUnbusted(Execution made) {
        if (made.busted) {
            throw new IllegalStateException("the execution is busted");
        }
    }

    // ---- what is where

    private Party party(int side) {
        return side == HOUSE ? house : trader;
    }

    private static int otherSide(int side) {
        return side == HOUSE ? TRADER : HOUSE;
    }

    private Order findOrder(int order) {
        return order >= 0 && order < allOrders.size() ? allOrders.get(order) : null;
    }

    private Execution findExecution(int execution) {
        return execution >= 0 && execution < allExecutions.size() ? allExecutions.get(execution) : null;
    }

    private Quote[] quotesFor(boolean sells) {
        return sells ? quotesForSellers : quotesForBuyers;
    }

    private ArrayList<Order> byRank(boolean sells) {
        return sells ? sellersByRank : buyersByRank;
    }

    private boolean hasExecutedAt(Order order, int venue) {
        for (int i = 0; i < allExecutions.size(); i++) {
            Execution made = allExecutions.get(i);
            if (made.order == order && made.venue == venue) {
                return true;
            }
        }
        return false;
    }

    // ---- the session

    private void send(int side, int kind, int[] body) {
        Party sender = party(side);
        int number = sender.kept.size() + 1;
        if (number > MOST_KEPT) {
            return;
        }
        sender.kept.add(new Message(kind, number, now, body));
        sender.lastSent = now;
        if (up) {
            party(otherSide(side)).way.put(number, AS_KEPT);
        }
    }

    private void goDown() {
        up = false;
        trader.leaveLine();
        house.leaveLine();
    }

    private void tick(int side) {
        Party party = party(side);
        if (!party.on) {
            return;
        }
        if (now - party.lastSent >= BEAT_AFTER) {
            send(side, BEAT, NO_FIELDS);
        }
        int quiet = now - party.lastCame;
        if (quiet == TEST_AFTER) {
            send(side, TEST, NO_FIELDS);
        } else if (quiet >= DOWN_AFTER) {
            goDown();
        }
    }

    /** Takes what came ungarbled, and returns whether it is the one to be worked off now. */
    private boolean receive(int side, int number, int next) {
        Party party = party(side);
        Message message = party(otherSide(side)).message(number);
        if (message == null) {
            return false;
        }
        int kind = next == AS_KEPT ? message.kind : FILL;
        if (!party.on && kind != LOGON) {
            return false;
        }
        party.lastCame = now;
        if (kind == LOGON) {
            party.on = true;
        } else if (kind == RESEND) {
            answer(side, message.valueOf(TAG_FIRST));
        }
        if (number > party.expectedNumber) {
            party.back.hold(number, next);
            askForExpected(side);
        }
        return number == party.expectedNumber;
    }

    private void askForExpected(int side) {
        Party party = party(side);
        int first = party.expectedNumber;
        if (party.askedFor == first && now - party.askedAt < ASK_AGAIN_AFTER) {
            return;
        }
        party.askedFor = first;
        party.askedAt = now;
        send(side, RESEND, new int[] {TAG_FIRST, first});
    }

    private void answer(int side, int first) {
        Party sender = party(side);
        Way way = party(otherSide(side)).way;
        int last = sender.kept.size();
        int gapFrom = NOTHING;
        for (int number = Math.max(first, 1); number <= last; number++) {
            Message message = sender.message(number);
            if (message != null && mayGoAgain(message)) {
                if (gapFrom != NOTHING) {
                    way.put(gapFrom, number);
                    gapFrom = NOTHING;
                }
                message.wentAgain = true;
                way.put(number, AS_KEPT);
            } else {
                leaveOutOrderOf(message);
                gapFrom = gapFrom == NOTHING ? number : gapFrom;
            }
            sender.lastSent = now;
        }
        if (gapFrom != NOTHING) {
            way.put(gapFrom, last + 1);
        }
    }

    private boolean mayGoAgain(Message message) {
        if (message.kind == ORDER) {
            return message.wentAgain || now - message.sentAt <= STALE_AFTER;
        }
        return message.kind > ORDER;
    }

    private void leaveOutOrderOf(Message message) {
        if (message == null || message.kind != ORDER) {
            return;
        }
        Order order = findOrder(message.valueOf(TAG_NEW_ORDER));
        if (order != null) {
            order.leftOut = true;
        }
    }

    /** Works off the message with the expected number, then those held back that are in turn by that. */
    private void workInTurn(int side, int firstNext) {
        Party party = party(side);
        Party sender = party(otherSide(side));
        int next = firstNext;
        // Each round takes one number at least that the sender has given by now.
        int most = sender.kept.size();
        for (int i = 0; i < most && next != NOTHING; i++) {
            int number = party.expectedNumber;
            party.expectedNumber = Math.max(number + 1, next);
            if (next == AS_KEPT) {
                workOff(side, sender.message(number));
            }
            party.back.dropBetween(number, party.expectedNumber);
            next = party.back.take(party.expectedNumber);
        }
    }

    private void workOff(int side, Message message) {
        if (message == null) {
            return;
        }
        switch (message.kind) {
            case TEST:
                send(side, BEAT, NO_FIELDS);
                break;
            case ORDER:
                houseTakesOrder(message);
                break;
            case CANCEL:
                houseCancels(findOrder(message.valueOf(TAG_ASKED_ORDER)));
                break;
            case REPLACE:
                houseReplaces(findOrder(message.valueOf(TAG_ASKED_ORDER)), message);
                break;
            case REPORT:
                traderReads(message);
                break;
            default:
                break;
        }
    }

    // ---- the house

    private void houseTakesOrder(Message message) {
        Order order = findOrder(message.valueOf(TAG_NEW_ORDER));
        if (order == null || order.atHouse) {
            return;
        }
        order.atHouse = true;
        order.houseBook.price = message.valueOf(TAG_PRICE);
        order.houseBook.size = message.valueOf(TAG_SIZE);
        rankBehindItsPrice(order);
        reportPlainly(ACK, order);
        route(order);
    }

    private void houseCancels(Order order) {
        if (order == null) {
            return;
        }
        int rest = order.houseBook.rest();
        if (!order.atHouse || rest <= 0) {
            reportPlainly(REFUSED, order);
            return;
        }
        order.houseBook.outSize += rest;
        send(HOUSE, REPORT, new int[] {TAG_SORT, OUT, TAG_TOLD_ORDER, order.number, TAG_MADE_SIZE, rest});
    }

    private void houseReplaces(Order order, Message message) {
        if (order == null) {
            return;
        }
        Book book = order.houseBook;
        int price = message.valueOf(TAG_PRICE);
        int size = message.valueOf(TAG_SIZE);
        if (!order.atHouse || book.rest() <= 0 || size <= book.doneSize + book.outSize) {
            reportPlainly(REFUSED, order);
            return;
        }
        book.price = price;
        book.size = size;
        rankBehindItsPrice(order);
        send(HOUSE, REPORT, new int[] {TAG_SORT, REPLACED, TAG_TOLD_ORDER, order.number, TAG_PRICE, price, TAG_SIZE, size});
        route(order);
    }

    private void reportPlainly(int sort, Order order) {
        send(HOUSE, REPORT, new int[] {TAG_SORT, sort, TAG_TOLD_ORDER, order.number});
    }

    private void rankBehindItsPrice(Order order) {
        ArrayList<Order> ranked = byRank(order.sells);
        for (int i = 0; i < ranked.size(); i++) {
            if (ranked.get(i) == order) {
                ranked.remove(i);
                break;
            }
        }
        int place = 0;
        while (place < ranked.size() && !order.hasBetterPriceThan(ranked.get(place))) {
            place++;
        }
        ranked.add(place, order);
    }

    private void route(Order order) {
        int first = allExecutions.size();
        for (int number = first; number < MOST_EXECUTIONS; number++) {
            Quote quote = bestQuoteFor(order);
            if (quote == null) {
                break;
            }
            int size = Math.min(order.houseBook.rest(), quote.size);
            allExecutions.add(new Execution(order, quote, size, today));
            order.houseBook.doneSize += size;
            quote.size -= size;
        }
        if (allExecutions.size() > first) {
            send(HOUSE, REPORT, bodyOfFilled(order, first));
        }
    }

    private Quote bestQuoteFor(Order order) {
        Quote[] quotes = quotesFor(order.sells);
        Quote best = null;
        for (int venue = 0; venue < quotes.length; venue++) {
            Quote quote = quotes[venue];
            if (order.canTradeWith(quote) && (best == null || quote.isBetterThan(best, order.sells))) {
                best = quote;
            }
        }
        return best;
    }

    /** The fields of a FILLED for all executions from the first one on, which are those of one routing. */
    private int[] bodyOfFilled(Order order, int first) {
        int count = allExecutions.size() - first;
        int[] head = {TAG_SORT, FILLED, TAG_TOLD_ORDER, order.number, TAG_COUNT, count};
        int[] body = Arrays.copyOf(head, head.length + 2 * PLACES_OF_EXECUTION * count);
        int at = head.length;
        for (int number = first; number < allExecutions.size() && at + 8 <= body.length; number++) {
            Execution made = allExecutions.get(number);
            body[at] = TAG_EXECUTION;
            body[at + 1] = number;
            body[at + 2] = TAG_VENUE;
            body[at + 3] = made.venue;
            body[at + 4] = TAG_MADE_PRICE;
            body[at + 5] = made.price;
            body[at + 6] = TAG_MADE_SIZE;
            body[at + 7] = made.size;
            at += 2 * PLACES_OF_EXECUTION;
        }
        return body;
    }

    // ---- the trader

    private void traderReads(Message report) {
        Order order = findOrder(report.valueOf(TAG_TOLD_ORDER));
        if (order == null) {
            return;
        }
        switch (report.valueOf(TAG_SORT)) {
            case ACK:
                order.acknowledged = true;
                break;
            case FILLED:
                traderReadsFilled(order, report);
                break;
            case OUT:
                order.traderBook.outSize += report.valueOf(TAG_MADE_SIZE);
                order.endRequest();
                break;
            case REPLACED:
                order.traderBook.price = report.valueOf(TAG_PRICE);
                order.traderBook.size = report.valueOf(TAG_SIZE);
                order.endRequest();
                break;
            case REFUSED:
                order.endRequest();
                break;
            case BUSTED:
                traderReadsBusted(order, findExecution(report.valueOf(TAG_EXECUTION)));
                break;
            case CORRECTED:
                traderReadsCorrected(report);
                break;
            default:
                break;
        }
    }

    private void traderReadsFilled(Order order, Message report) {
        int count = report.valueOf(TAG_COUNT);
        for (int i = 0; i < count; i++) {
            int place = FIRST_EXECUTION_PLACE + PLACES_OF_EXECUTION * i;
            order.traderBook.doneSize += report.valueOfPlace(place + 3);
            Execution made = findExecution(report.valueOfPlace(place));
            if (made != null) {
                made.known = true;
                made.knownPrice = report.valueOfPlace(place + 2);
            }
        }
    }

    private static void traderReadsBusted(Order order, Execution made) {
        if (made != null && made.known) {
            made.knownBusted = true;
            order.traderBook.takeBack(made.size);
        }
    }

    private void traderReadsCorrected(Message report) {
        Execution made = findExecution(report.valueOf(TAG_EXECUTION));
        if (made != null && made.known) {
            made.knownPrice = report.valueOf(TAG_MADE_PRICE);
        }
    }

    // ---- what the line is made of

    /** One side: what it has sent, what is on its way to it, and how far it has come with that. */
    private static final class Party {
        final ArrayList<Message> kept = new ArrayList<Message>();
        final Way way = new Way();
        final Back back = new Back();
        boolean on;
        int expectedNumber = 1;
        int askedFor;
        int askedAt;
        int lastSent;
        int lastCame;

        Message message(int number) {
            return number >= 1 && number <= kept.size() ? kept.get(number - 1) : null;
        }

        void numberAnew() {
            kept.clear();
            expectedNumber = 1;
        }

        void leaveLine() {
            on = false;
            askedFor = NOTHING;
            way.clear();
            back.clear();
        }
    }

    /** A message that is kept, with its fields as tags and values in turn. */
    private static final class Message {
        final int kind;
        final int sentAt;
        final int[] row;
        boolean wentAgain;

        Message(int kind, int number, int sentAt, int[] body) {
            this.kind = kind;
            this.sentAt = sentAt;
            int[] head = {TAG_KIND, kind, TAG_NUMBER, number};
            row = Arrays.copyOf(head, head.length + body.length + 2);
            System.arraycopy(body, 0, row, head.length, body.length);
            int sumAt = row.length - 1;
            int sum = 0;
            for (int i = 0; i < sumAt - 1; i++) {
                sum += row[i];
            }
            row[sumAt - 1] = TAG_SUM;
            row[sumAt] = Math.floorMod(sum, 256);
        }

        int fieldCount() {
            return row.length / 2;
        }

        boolean hasPlace(int place) {
            return place >= 0 && place < row.length / 2;
        }

        int tagOfPlace(int place) {
            return hasPlace(place) ? row[2 * place] : NONE;
        }

        int valueOfPlace(int place) {
            return hasPlace(place) ? row[2 * place + 1] : NONE;
        }

        /** The value of the first field with the tag. */
        int valueOf(int tag) {
            for (int i = 0; i + 1 < row.length; i += 2) {
                if (row[i] == tag) {
                    return row[i + 1];
                }
            }
            return NONE;
        }
    }

    /** The messages on their way to one side: a ring of rows that are used again. */
    private static final class Way {
        int[] numbers = new int[32];
        int[] nexts = new int[32];
        boolean[] garbled = new boolean[32];
        int head;
        int count;

        void put(int number, int next) {
            if (count >= numbers.length) {
                grow();
            }
            if (count >= numbers.length) {
                return;
            }
            count++;
            int slot = slotOf(count - 1);
            numbers[slot] = number;
            nexts[slot] = next;
            garbled[slot] = false;
        }

        /** Makes the full ring twice as long, with the first message in the first slot. */
        private void grow() {
            int length = numbers.length;
            if (length >= MOST_ON_WAY) {
                return;
            }
            int[] newNumbers = new int[2 * length];
            int[] newNexts = new int[2 * length];
            boolean[] newGarbled = new boolean[2 * length];
            int slot = head;
            for (int place = 0; place < length; place++) {
                newNumbers[place] = numbers[slot];
                newNexts[place] = nexts[slot];
                newGarbled[place] = garbled[slot];
                slot = slot + 1 < length ? slot + 1 : 0;
            }
            numbers = newNumbers;
            nexts = newNexts;
            garbled = newGarbled;
            head = 0;
        }

        /** The slot of a place, which callers have tested; 0 for a place that there is not. */
        private int slotOf(int place) {
            if (place < 0 || place >= count) {
                return 0;
            }
            int slot = head + place;
            return slot < numbers.length ? slot : slot - numbers.length;
        }

        int numberAt(int place) {
            return numbers[slotOf(place)];
        }

        int nextAt(int place) {
            return nexts[slotOf(place)];
        }

        boolean isGarbledAt(int place) {
            return garbled[slotOf(place)];
        }

        void garbleAt(int place) {
            garbled[slotOf(place)] = true;
        }

        void dropFirst() {
            if (count > 0) {
                head = slotOf(1);
                count--;
            }
        }

        void clear() {
            head = 0;
            count = 0;
        }
    }

    /** What a side holds back, by number: NOTHING, AS_KEPT, or the next number of a FILL. */
    private static final class Back {
        int[] nexts = new int[32];
        int count;

        void hold(int number, int next) {
            if (number < 0 || number > MOST_KEPT) {
                return;
            }
            if (number >= nexts.length) {
                nexts = Arrays.copyOf(nexts, 2 * number);
            }
            if (nexts[number] == NOTHING) {
                count++;
            }
            nexts[number] = next;
        }

        int take(int number) {
            if (number < 0 || number >= nexts.length || nexts[number] == NOTHING) {
                return NOTHING;
            }
            int next = nexts[number];
            nexts[number] = NOTHING;
            count--;
            return next;
        }

        void dropBetween(int from, int end) {
            for (int number = from; number < end && count > 0; number++) {
                take(number);
            }
        }

        void clear() {
            Arrays.fill(nexts, NOTHING);
            count = 0;
        }
    }

    // ---- what is traded

    private static final class Order {
        final int number;
        final boolean sells;
        final Book traderBook;
        final Book houseBook;
        boolean acknowledged;
        boolean leftOut;
        boolean atHouse;
        int requests;

        Order(int number, boolean sells, int price, int size) {
            this.number = number;
            this.sells = sells;
            traderBook = new Book(price, size);
            houseBook = new Book(0, 0);
        }

        boolean isInBook(int side) {
            return side == TRADER || atHouse;
        }

        Book book(int side) {
            return side == HOUSE ? houseBook : traderBook;
        }

        int leftFor(int side) {
            if (side == TRADER && !acknowledged) {
                return 0;
            }
            return book(side).rest();
        }

        int state() {
            if (!acknowledged) {
                return PENDING;
            }
            return traderBook.rest() > 0 ? LIVE : OVER;
        }

        boolean booksAgree() {
            return leftFor(TRADER) == leftFor(HOUSE)
                && traderBook.doneSize == houseBook.doneSize
                && traderBook.outSize == houseBook.outSize;
        }

        boolean canTradeWith(Quote quote) {
            if (houseBook.rest() <= 0 || quote.size <= 0) {
                return false;
            }
            return sells ? quote.price >= houseBook.price : quote.price <= houseBook.price;
        }

        boolean hasBetterPriceThan(Order other) {
            return sells ? houseBook.price < other.houseBook.price : houseBook.price > other.houseBook.price;
        }

        void endRequest() {
            if (requests > 0) {
                requests--;
            }
        }
    }

    /** What one side has written down of an order. */
    private static final class Book {
        int price;
        int size;
        int doneSize;
        int outSize;

        Book(int price, int size) {
            this.price = price;
            this.size = size;
        }

        int rest() {
            return size - doneSize - outSize;
        }

        void takeBack(int part) {
            doneSize -= part;
            outSize += part;
        }
    }

    private static final class Quote {
        final int venue;
        int price;
        int size;

        Quote(int venue) {
            this.venue = venue;
        }

        boolean isBetterThan(Quote other, boolean sells) {
            if (price == other.price) {
                return size > other.size;
            }
            return sells ? price > other.price : price < other.price;
        }
    }

    /** An execution, and beside it what the trader knows of it. */
    private static final class Execution {
        final Order order;
        final int venue;
        final int size;
        final int day;
        int price;
        boolean busted;
        boolean known;
        int knownPrice;
        boolean knownBusted;

        Execution(Order order, Quote quote, int size, int day) {
            this.order = order;
            this.venue = quote.venue;
            this.price = quote.price;
            this.size = size;
            this.day = day;
        }

        boolean countsFor(int side) {
            return side == HOUSE ? !busted : known && !knownBusted;
        }

        int priceFor(int side) {
            return side == HOUSE ? price : knownPrice;
        }
    }
}
