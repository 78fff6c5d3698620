import java.util.ArrayDeque;
import java.util.ArrayList;
import java.util.Collections;
import java.util.Comparator;
import java.util.HashMap;
import java.util.HashSet;
import java.util.List;
import java.util.Map;
import java.util.Optional;
import java.util.Set;
import java.util.TreeMap;

/**
 * The document once more, written with the whole Java library and without a thought of cost, so that
 * the class and this can be held against each other. Books are kept as lists of what happened.
 */
final class Model {
    private enum Kind { LOGON, BEAT, TEST, RESEND, FILL, ORDER, CANCEL, REPLACE, REPORT }

    private static final class Mail {
        Kind kind;
        int number;
        int next;
        int born;
        boolean again;
        List<int[]> fields = new ArrayList<>();
        Runnable work = () -> { };
        int order = -1;
        int first;
    }

    private static final class Parcel {
        final Mail mail;
        boolean garbled;

        Parcel(Mail mail) {
            this.mail = mail;
        }
    }

    private static final class End {
        List<Mail> kept = new ArrayList<>();
        ArrayDeque<Parcel> inbox = new ArrayDeque<>();
        TreeMap<Integer, Mail> held = new TreeMap<>();
        Map<Integer, Integer> asked = new HashMap<>();
        int expected = 1;
        boolean on;
        int spoke;
        int heard;
    }

    private static final class Page {
        int price;
        int size;
        int done;
        int out;

        int left() {
            return size - done - out;
        }
    }

    private static final class Deal {
        boolean sells;
        Page trader = new Page();
        Page house;
        boolean acknowledged;
        boolean skipped;
        int pending;
        int rank;
    }

    private static final class Trade {
        int number;
        int order;
        int venue;
        int size;
        int day;
        int price;
    }

    private static final class Offer {
        int venue;
        int price;
        int size;
    }

    private final End[] ends = {new End(), new End()};
    private final List<Deal> deals = new ArrayList<>();
    private final List<Trade> trades = new ArrayList<>();
    private final Set<Integer> busted = new HashSet<>();
    private final Map<Integer, Integer> knownPrices = new HashMap<>();
    private final Set<Integer> knownBusted = new HashSet<>();
    private final List<List<Offer>> offers = new ArrayList<>();
    private boolean up;
    private int clock;
    private int day;
    private int ranks;

    Model() {
        for (int direction = 0; direction < 2; direction++) {
            List<Offer> row = new ArrayList<>();
            for (int venue = 0; venue < 3; venue++) {
                Offer offer = new Offer();
                offer.venue = venue;
                row.add(offer);
            }
            offers.add(row);
        }
    }

    private static void bounds(boolean fine) {
        if (!fine) {
            throw new IndexOutOfBoundsException();
        }
    }

    private static void argument(boolean fine) {
        if (!fine) {
            throw new IllegalArgumentException();
        }
    }

    private static void state(boolean fine) {
        if (!fine) {
            throw new IllegalStateException();
        }
    }

    private End end(int side) {
        bounds(side == 0 || side == 1);
        return ends[side];
    }

    private Deal deal(int order) {
        bounds(order >= 0 && order < deals.size());
        return deals.get(order);
    }

    private Trade trade(int execution) {
        bounds(execution >= 0 && execution < trades.size());
        return trades.get(execution);
    }

    private Mail mail(int side, int number) {
        End end = end(side);
        bounds(number >= 1 && number <= end.kept.size());
        return end.kept.get(number - 1);
    }

    // ---- the line

    void connect(boolean resets) {
        state(!up);
        if (resets) {
            for (End end : ends) {
                end.kept = new ArrayList<>();
                end.expected = 1;
            }
        }
        up = true;
        for (End end : ends) {
            end.spoke = clock;
            end.heard = clock;
        }
        post(0, mailOf(Kind.LOGON));
        post(1, mailOf(Kind.LOGON));
    }

    int cut() {
        state(up);
        int lost = ends[0].inbox.size() + ends[1].inbox.size();
        down();
        return lost;
    }

    private void down() {
        up = false;
        for (End end : ends) {
            end.on = false;
            end.inbox = new ArrayDeque<>();
            end.held = new TreeMap<>();
            end.asked = new HashMap<>();
        }
    }

    int come(int side, int many) {
        End end = end(side);
        argument(many >= 1 && many <= 100);
        int all = Math.min(many, end.inbox.size());
        for (int i = 0; i < all; i++) {
            arrive(side, end.inbox.poll());
        }
        return all;
    }

    private void arrive(int side, Parcel parcel) {
        End end = ends[side];
        Mail mail = parcel.mail;
        if (parcel.garbled || (!end.on && mail.kind != Kind.LOGON)) {
            return;
        }
        end.heard = clock;
        if (mail.kind == Kind.LOGON) {
            end.on = true;
        }
        if (mail.kind == Kind.RESEND) {
            answerFrom(side, mail.first);
        }
        if (mail.number < end.expected) {
            return;
        }
        if (mail.number > end.expected) {
            end.held.put(mail.number, mail);
            Integer before = end.asked.get(end.expected);
            if (before == null || clock - before >= 5) {
                end.asked.put(end.expected, clock);
                Mail resend = mailOf(Kind.RESEND);
                resend.first = end.expected;
                resend.fields.add(new int[] {7, end.expected});
                post(side, resend);
            }
            return;
        }
        Mail current = mail;
        while (current != null) {
            end.expected = current.kind == Kind.FILL ? Math.max(current.next, current.number + 1) : current.number + 1;
            current.work.run();
            end.held.headMap(end.expected).clear();
            current = end.held.remove(end.expected);
        }
    }

    private void answerFrom(int side, int first) {
        List<Mail> silent = new ArrayList<>();
        List<Mail> row = new ArrayList<>(ends[side].kept);
        for (Mail mail : row.subList(Math.max(1, first) - 1, row.size())) {
            boolean session = mail.kind.ordinal() <= 4;
            boolean stale = mail.kind == Kind.ORDER && clock - mail.born > 20 && !mail.again;
            if (session || stale) {
                if (stale) {
                    deals.get(mail.order).skipped = true;
                }
                silent.add(mail);
            } else {
                fill(side, silent);
                mail.again = true;
                put(side, mail);
            }
        }
        fill(side, silent);
    }

    private void fill(int side, List<Mail> silent) {
        if (silent.isEmpty()) {
            return;
        }
        Mail fill = mailOf(Kind.FILL);
        fill.number = silent.get(0).number;
        fill.next = silent.get(silent.size() - 1).number + 1;
        put(side, fill);
        silent.clear();
    }

    private Mail mailOf(Kind kind) {
        Mail mail = new Mail();
        mail.kind = kind;
        return mail;
    }

    private void post(int side, Mail mail) {
        mail.number = ends[side].kept.size() + 1;
        mail.born = clock;
        if (mail.kind == Kind.TEST) {
            mail.work = () -> post(1 - side, mailOf(Kind.BEAT));
        }
        List<int[]> all = new ArrayList<>();
        all.add(new int[] {35, mail.kind.ordinal()});
        all.add(new int[] {34, mail.number});
        all.addAll(mail.fields);
        int sum = all.stream().mapToInt(pair -> pair[0] + pair[1]).sum();
        all.add(new int[] {10, sum % 256});
        mail.fields = all;
        ends[side].kept.add(mail);
        put(side, mail);
    }

    private void put(int side, Mail mail) {
        ends[side].spoke = clock;
        if (up) {
            ends[1 - side].inbox.add(new Parcel(mail));
        }
    }

    int garble(int side, int place) {
        End end = end(side);
        bounds(place >= 0 && place < end.inbox.size());
        Parcel parcel = new ArrayList<>(end.inbox).get(place);
        parcel.garbled = true;
        return parcel.mail.number;
    }

    int pass(int ticks) {
        argument(ticks >= 1 && ticks <= 50);
        int count = 0;
        for (int i = 0; i < ticks; i++) {
            clock++;
            for (int side = 0; side < 2; side++) {
                count += ends[side].on ? tickOf(side) : 0;
            }
        }
        return count;
    }

    private int tickOf(int side) {
        End end = ends[side];
        int count = 0;
        if (clock - end.spoke >= 10) {
            post(side, mailOf(Kind.BEAT));
            count++;
        }
        if (clock - end.heard == 15) {
            post(side, mailOf(Kind.TEST));
            count++;
        }
        if (clock - end.heard >= 25) {
            down();
        }
        return count;
    }

    boolean isUp() {
        return up;
    }

    boolean isOn(int side) {
        return end(side).on;
    }

    int onWay(int side) {
        return end(side).inbox.size();
    }

    int sent(int side) {
        return end(side).kept.size();
    }

    int expected(int side) {
        return end(side).expected;
    }

    int held(int side) {
        return end(side).held.size();
    }

    int fields(int side, int number) {
        return mail(side, number).fields.size();
    }

    private int[] pair(int side, int number, int place) {
        Mail mail = mail(side, number);
        bounds(place >= 0 && place < mail.fields.size());
        return mail.fields.get(place);
    }

    int tagAt(int side, int number, int place) {
        return pair(side, number, place)[0];
    }

    int valueAt(int side, int number, int place) {
        return pair(side, number, place)[1];
    }

    // ---- the trader

    int order(boolean sells, int price, int size) {
        argument(price >= 1 && price <= 100 && size >= 1 && size <= 100);
        state(ends[0].on && deals.size() < 40);
        int number = deals.size();
        Deal deal = new Deal();
        deal.sells = sells;
        deal.trader.price = price;
        deal.trader.size = size;
        deals.add(deal);
        Mail mail = mailOf(Kind.ORDER);
        mail.order = number;
        Collections.addAll(mail.fields, new int[] {11, number}, new int[] {54, sells ? 1 : 0}, new int[] {44, price}, new int[] {38, size});
        mail.work = () -> take(number, price, size);
        post(0, mail);
        return number;
    }

    int cancel(int order) {
        Deal deal = deal(order);
        state(ends[0].on && stateOf(order) != 2 && deal.pending < 5);
        Mail mail = mailOf(Kind.CANCEL);
        mail.fields.add(new int[] {41, order});
        mail.work = () -> withdraw(order);
        post(0, mail);
        return ++deal.pending;
    }

    int replace(int order, int price, int size) {
        Deal deal = deal(order);
        argument(price >= 1 && price <= 100 && size >= 1 && size <= 100);
        state(ends[0].on && stateOf(order) != 2 && deal.pending < 5);
        Mail mail = mailOf(Kind.REPLACE);
        Collections.addAll(mail.fields, new int[] {41, order}, new int[] {44, price}, new int[] {38, size});
        mail.work = () -> change(order, price, size);
        post(0, mail);
        return ++deal.pending;
    }

    int stateOf(int order) {
        Deal deal = deal(order);
        if (!deal.acknowledged) {
            return 0;
        }
        return deal.trader.left() > 0 ? 1 : 2;
    }

    boolean isLeftOut(int order) {
        return deal(order).skipped && stateOf(order) == 0;
    }

    int underWay(int order) {
        return deal(order).pending;
    }

    // ---- the house

    private void report(int sort, int order, Runnable work, int... pairs) {
        Mail mail = mailOf(Kind.REPORT);
        mail.fields.add(new int[] {150, sort});
        mail.fields.add(new int[] {37, order});
        for (int i = 0; i < pairs.length; i += 2) {
            mail.fields.add(new int[] {pairs[i], pairs[i + 1]});
        }
        Deal deal = deals.get(order);
        mail.work = () -> {
            work.run();
            if (sort == 2 || sort == 3 || sort == 4) {
                deal.pending = Math.max(0, deal.pending - 1);
            }
        };
        post(1, mail);
    }

    private void take(int order, int price, int size) {
        Deal deal = deals.get(order);
        if (deal.house != null) {
            return;
        }
        deal.house = new Page();
        deal.house.price = price;
        deal.house.size = size;
        deal.rank = ranks++;
        report(0, order, () -> deal.acknowledged = true);
        route(order);
    }

    private void withdraw(int order) {
        Deal deal = deals.get(order);
        if (deal.house == null || deal.house.left() == 0) {
            report(4, order, () -> { });
            return;
        }
        int rest = deal.house.left();
        deal.house.out += rest;
        report(2, order, () -> deal.trader.out += rest, 32, rest);
    }

    private void change(int order, int price, int size) {
        Deal deal = deals.get(order);
        if (deal.house == null || deal.house.left() == 0 || size <= deal.house.done + deal.house.out) {
            report(4, order, () -> { });
            return;
        }
        deal.house.price = price;
        deal.house.size = size;
        deal.rank = ranks++;
        report(3, order, () -> {
            deal.trader.price = price;
            deal.trader.size = size;
        }, 44, price, 38, size);
        route(order);
    }

    private Optional<Offer> best(Deal deal) {
        int sign = deal.sells ? -1 : 1;
        Comparator<Offer> byPrice = Comparator.comparingInt(offer -> sign * offer.price);
        Comparator<Offer> bySize = Comparator.comparingInt(offer -> -offer.size);
        return offers.get(deal.sells ? 1 : 0).stream()
            .filter(offer -> offer.size > 0)
            .filter(offer -> sign * offer.price <= sign * deal.house.price)
            .min(byPrice.thenComparing(bySize).thenComparingInt(offer -> offer.venue));
    }

    private void route(int order) {
        Deal deal = deals.get(order);
        List<Trade> made = new ArrayList<>();
        while (deal.house.left() > 0 && trades.size() < 100 && best(deal).isPresent()) {
            Offer offer = best(deal).get();
            Trade trade = new Trade();
            trade.number = trades.size();
            trade.order = order;
            trade.venue = offer.venue;
            trade.price = offer.price;
            trade.size = Math.min(offer.size, deal.house.left());
            trade.day = day;
            offer.size -= trade.size;
            deal.house.done += trade.size;
            trades.add(trade);
            made.add(trade);
        }
        if (!made.isEmpty()) {
            reportFilled(order, made);
        }
    }

    private void reportFilled(int order, List<Trade> made) {
        int[] pairs = new int[2 + 8 * made.size()];
        pairs[0] = 382;
        pairs[1] = made.size();
        int at = 2;
        List<Runnable> works = new ArrayList<>();
        for (Trade trade : made) {
            int price = trade.price;
            for (int value : new int[] {17, trade.number, 30, trade.venue, 31, price, 32, trade.size}) {
                pairs[at++] = value;
            }
            works.add(() -> {
                deals.get(order).trader.done += trade.size;
                knownPrices.put(trade.number, price);
            });
        }
        report(1, order, () -> works.forEach(Runnable::run), pairs);
    }

    int quote(int venue, boolean sells, int price, int size) {
        bounds(venue >= 0 && venue <= 2);
        argument(price >= 1 && price <= 100 && size >= 0 && size <= 200);
        int before = trades.size();
        Offer offer = offers.get(sells ? 1 : 0).get(venue);
        offer.price = price;
        offer.size = size;
        Comparator<Integer> byPrice = Comparator.comparingInt(order -> (sells ? 1 : -1) * deals.get(order).house.price);
        List<Integer> ranked = new ArrayList<>();
        for (int order = 0; order < deals.size(); order++) {
            if (deals.get(order).house != null && deals.get(order).sells == sells) {
                ranked.add(order);
            }
        }
        ranked.sort(byPrice.thenComparingInt(order -> deals.get(order).rank));
        ranked.forEach(this::route);
        return trades.size() - before;
    }

    int quoted(int venue, boolean sells) {
        bounds(venue >= 0 && venue <= 2);
        return offers.get(sells ? 1 : 0).get(venue).size;
    }

    int bust(int execution) {
        Trade trade = trade(execution);
        state(busted.add(execution));
        Deal deal = deals.get(trade.order);
        deal.house.done -= trade.size;
        deal.house.out += trade.size;
        report(5, trade.order, () -> {
            if (knownPrices.containsKey(execution)) {
                knownBusted.add(execution);
                deal.trader.done -= trade.size;
                deal.trader.out += trade.size;
            }
        }, 17, execution);
        return deal.house.done;
    }

    int correct(int execution, int price) {
        Trade trade = trade(execution);
        argument(price >= 1 && price <= 100);
        state(!busted.contains(execution));
        int before = trade.price;
        trade.price = price;
        report(6, trade.order, () -> knownPrices.computeIfPresent(execution, (key, old) -> price), 17, execution, 31, price);
        return before;
    }

    boolean isBusted(int execution) {
        return busted.contains(execution);
    }

    int executions() {
        return trades.size();
    }

    int endDay() {
        return ++day;
    }

    // ---- books

    int orders() {
        return deals.size();
    }

    private Page page(int side, int order) {
        end(side);
        Deal deal = deal(order);
        return side == 0 ? deal.trader : deal.house;
    }

    int left(int side, int order) {
        Page page = page(side, order);
        if (side == 0 && !deals.get(order).acknowledged) {
            return 0;
        }
        return page == null ? -1 : page.left();
    }

    int done(int side, int order) {
        Page page = page(side, order);
        return page == null ? -1 : page.done;
    }

    private boolean counts(int side, Trade trade) {
        if (side == 1) {
            return !busted.contains(trade.number);
        }
        return knownPrices.containsKey(trade.number) && !knownBusted.contains(trade.number);
    }

    int doneByLog(int side, int order) {
        if (page(side, order) == null) {
            return -1;
        }
        return trades.stream().filter(trade -> trade.order == order && counts(side, trade)).mapToInt(trade -> trade.size).sum();
    }

    int out(int side, int order) {
        Page page = page(side, order);
        return page == null ? -1 : page.out;
    }

    int venues(int order) {
        deal(order);
        return (int) trades.stream().filter(trade -> trade.order == order).map(trade -> trade.venue).distinct().count();
    }

    int total(int side, int asked, boolean sells, int what) {
        end(side);
        bounds(asked >= 0 && asked <= day);
        argument(what == 0 || what == 1);
        int sum = 0;
        for (Trade trade : trades) {
            if (trade.day == asked && deals.get(trade.order).sells == sells && counts(side, trade)) {
                int price = side == 1 ? trade.price : knownPrices.get(trade.number);
                sum += trade.size * (what == 1 ? price : 1);
            }
        }
        return sum;
    }

    boolean agree() {
        for (int order = 0; order < deals.size(); order++) {
            boolean same = left(0, order) == left(1, order) && done(0, order) == done(1, order) && out(0, order) == out(1, order);
            if (deals.get(order).house != null && !same) {
                return false;
            }
        }
        return true;
    }
}
