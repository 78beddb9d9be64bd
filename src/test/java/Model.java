import java.math.BigInteger;
import java.util.ArrayList;
import java.util.HashMap;
import java.util.LinkedHashSet;
import java.util.List;
import java.util.Map;
import java.util.Set;

/**
 * The document told a second time, as slowly and plainly as its words go: the clock goes tick by tick, amounts are
 * BigIntegers, addresses are Strings. RandomRunsTest compares ValueConnector with it.
 */
final class Model {
    private static final class Account {
        int minimum;
        int limit;
        int worth;
        BigInteger balance = BigInteger.ZERO;
        Integer threshold = null;
        int target = 0;
        int digits = 0;
        BigInteger rest = BigInteger.ZERO;
        int capacity = 1000;
        int flow = 100;
        int drops = 100000;
        final List<Integer> creditKeys = new ArrayList<>();
        final Map<String, Integer> routes = new HashMap<>();
    }

    private static final class Transfer {
        int from;
        int to;
        int amount;
        BigInteger outgoingAmount;
        long outgoingExpiry;
        long condition;
        int state = 0;
        long key = 0;
    }

    private final int margin;
    private final int hold;
    private int spread = 0;
    private long now = 0;
    private final List<Account> accounts = new ArrayList<>();
    private final List<Transfer> transfers = new ArrayList<>();
    private final List<BigInteger> settlements = new ArrayList<>();

    Model(int margin, int hold) {
        this.margin = 1 <= margin && margin <= 1000 ? margin : 10;
        this.hold = 1 <= hold && hold <= 100000 ? hold : 1000;
    }

    int account(int minimum, int limit, int worth) {
        boolean fits = accounts.size() < 8 && -1000000000 <= minimum && minimum <= 0 && 1 <= limit
                && limit <= 1000000000 && 1 <= worth && worth <= 10000;
        if (!fits) {
            return -1;
        }
        Account made = new Account();
        made.minimum = minimum;
        made.limit = limit;
        made.worth = worth;
        accounts.add(made);
        return accounts.size() - 1;
    }

    boolean worth(int a, int w) {
        if (!isAccount(a) || w < 1 || w > 10000) {
            return false;
        }
        accounts.get(a).worth = w;
        return true;
    }

    boolean spread(int s) {
        if (s < 0 || s > 999) {
            return false;
        }
        spread = s;
        return true;
    }

    boolean policy(int a, int threshold, int target, int digits) {
        if (!isAccount(a) || threshold < 1 || threshold > 1000000000 || target < accounts.get(a).minimum
                || target >= threshold || digits < 0 || digits > 3) {
            return false;
        }
        accounts.get(a).threshold = threshold;
        accounts.get(a).target = target;
        accounts.get(a).digits = digits;
        return true;
    }

    boolean bucket(int a, int capacity, int flow) {
        if (!isAccount(a) || capacity < 1 || capacity > 1000 || flow < 0 || flow > 1000) {
            return false;
        }
        accounts.get(a).capacity = capacity;
        accounts.get(a).flow = flow;
        accounts.get(a).drops = 100 * capacity;
        return true;
    }

    boolean learn(int a, long prefix, int hops) {
        String letters = lettersOf(prefix);
        if (!isAccount(a) || letters == null || hops < 1 || hops > 15) {
            return false;
        }
        int routes = 0;
        for (Account account : accounts) {
            routes += account.routes.size();
        }
        if (routes == 40 && !accounts.get(a).routes.containsKey(letters)) {
            return false;
        }
        accounts.get(a).routes.put(letters, hops);
        return true;
    }

    boolean forget(int a, long prefix) {
        String letters = lettersOf(prefix);
        return isAccount(a) && letters != null && accounts.get(a).routes.remove(letters) != null;
    }

    int way(long address) {
        String letters = lettersOf(address);
        if (letters == null || letters.isEmpty()) {
            return -1;
        }
        int best = -1;
        int bestLength = -1;
        int bestHops = 0;
        for (int a = 0; a < accounts.size(); a++) {
            for (Map.Entry<String, Integer> route : accounts.get(a).routes.entrySet()) {
                int length = route.getKey().length();
                boolean better = length > bestLength || length == bestLength && route.getValue() < bestHops;
                if (letters.startsWith(route.getKey()) && better) {
                    best = a;
                    bestLength = length;
                    bestHops = route.getValue();
                }
            }
        }
        return best;
    }

    int prepare(int a, long address, int amount, int expiry, long condition) {
        if (!isAccount(a)) {
            return -1;
        }
        String letters = lettersOf(address);
        if (letters == null || letters.isEmpty() || amount < 0) {
            return -2;
        }
        if (transfers.size() == 120) {
            return -3;
        }
        Account payer = accounts.get(a);
        if (!(expiry > now)) {
            return -4;
        }
        if (amount > payer.limit) {
            return -5;
        }
        if (payer.drops < 100) {
            return -6;
        }
        payer.drops -= 100;
        int b = way(address);
        if (b == -1 || b == a) {
            return -7;
        }
        Transfer made = new Transfer();
        made.from = a;
        made.to = b;
        made.amount = amount;
        made.condition = condition;
        made.outgoingExpiry = Math.min((long) expiry - margin, now + hold);
        if (!(made.outgoingExpiry > now)) {
            return -8;
        }
        BigInteger left = payer.balance.subtract(BigInteger.valueOf(amount));
        if (left.compareTo(BigInteger.valueOf(payer.minimum)) < 0) {
            return -9;
        }
        made.outgoingAmount = BigInteger.valueOf(amount).multiply(BigInteger.valueOf(payer.worth))
                .multiply(BigInteger.valueOf(1000 - spread))
                .divide(BigInteger.valueOf(1000).multiply(BigInteger.valueOf(accounts.get(b).worth)));
        if (made.outgoingAmount.compareTo(BigInteger.valueOf(accounts.get(b).limit)) > 0) {
            return -10;
        }
        payer.balance = left;
        transfers.add(made);
        return transfers.size() - 1;
    }

    long lock(long key) {
        BigInteger k = BigInteger.valueOf(key);
        BigInteger x = k.multiply(k).add(BigInteger.valueOf(41)).mod(BigInteger.ONE.shiftLeft(64));
        return x.xor(x.shiftRight(7)).longValue();
    }

    int fulfil(int n, long key) {
        if (!isTransfer(n)) {
            return -1;
        }
        Transfer transfer = transfers.get(n);
        if (transfer.state != 0) {
            return -2;
        }
        if (lock(key) != transfer.condition) {
            return -3;
        }
        transfer.state = 1;
        transfer.key = key;
        Account payee = accounts.get(transfer.to);
        payee.balance = payee.balance.add(transfer.outgoingAmount);
        settle(transfer.to);
        return 0;
    }

    private void settle(int a) {
        Account account = accounts.get(a);
        if (account.threshold == null || account.balance.compareTo(BigInteger.valueOf(account.threshold)) < 0) {
            return;
        }
        BigInteger target = BigInteger.valueOf(account.target);
        BigInteger rest = account.rest.add(account.balance.subtract(target));
        account.balance = target;
        BigInteger[] parts = rest.divideAndRemainder(BigInteger.TEN.pow(account.digits));
        account.rest = parts[1];
        if (parts[0].signum() > 0) {
            settlements.add(parts[0].multiply(BigInteger.valueOf(8)).add(BigInteger.valueOf(a)));
        }
    }

    int reject(int n) {
        if (!isTransfer(n)) {
            return -1;
        }
        if (transfers.get(n).state != 0) {
            return -2;
        }
        payBack(transfers.get(n), 2);
        return 0;
    }

    private void payBack(Transfer transfer, int state) {
        transfer.state = state;
        Account payer = accounts.get(transfer.from);
        payer.balance = payer.balance.add(BigInteger.valueOf(transfer.amount));
    }

    int advance(int n) {
        if (n < 0 || n > 100000) {
            return -1;
        }
        int lapsed = 0;
        for (int i = 0; i < n; i++) {
            now++;
            for (Account account : accounts) {
                account.drops = Math.min(account.drops + account.flow, 100 * account.capacity);
            }
            for (Transfer transfer : transfers) {
                if (transfer.state == 0 && transfer.outgoingExpiry == now) {
                    payBack(transfer, 3);
                    lapsed++;
                }
            }
        }
        return lapsed;
    }

    int credit(int a, int key, int units) {
        if (!isAccount(a) || units < 0 || units > 1000000) {
            return -1;
        }
        Account account = accounts.get(a);
        Set<Integer> last = new LinkedHashSet<>();
        for (int i = account.creditKeys.size() - 1; i >= 0 && last.size() < 8; i--) {
            last.add(account.creditKeys.get(i));
        }
        if (last.contains(key)) {
            return 1;
        }
        account.creditKeys.add(key);
        BigInteger unit = BigInteger.TEN.pow(account.digits);
        account.balance = account.balance.add(BigInteger.valueOf(units).multiply(unit));
        return 0;
    }

    long balance(int a) {
        return isAccount(a) ? accounts.get(a).balance.longValueExact() : 0;
    }

    long position() {
        BigInteger sum = BigInteger.ZERO;
        for (Account account : accounts) {
            sum = sum.add(account.balance.multiply(BigInteger.valueOf(account.worth)));
        }
        return sum.longValueExact();
    }

    int state(int n) {
        return isTransfer(n) ? transfers.get(n).state : -1;
    }

    long transfer(int n, int what) {
        if (!isTransfer(n) || what < 0 || what > 3) {
            return -1;
        }
        Transfer transfer = transfers.get(n);
        long[] rows = {transfer.to, transfer.outgoingAmount.longValueExact(), transfer.outgoingExpiry, transfer.key};
        return rows[what];
    }

    long settlement(int n) {
        return n >= 0 && n < settlements.size() ? settlements.get(n).longValueExact() : -1;
    }

    int drops(int a) {
        return isAccount(a) ? accounts.get(a).drops : -1;
    }

    int transferCount() {
        return transfers.size();
    }

    int settlementCount() {
        return settlements.size();
    }

    private boolean isAccount(int a) {
        return a >= 0 && a < accounts.size();
    }

    private boolean isTransfer(int n) {
        return n >= 0 && n < transfers.size();
    }

    /** The letters of a prefix, or null when it is none. */
    private static String lettersOf(long value) {
        StringBuilder bytes = new StringBuilder();
        for (int i = 0; i < 8; i++) {
            bytes.append((char) (value >>> 8 * i & 255));
        }
        String text = bytes.toString();
        while (text.endsWith("\0")) {
            text = text.substring(0, text.length() - 1);
        }
        return text.matches("[a-z]{0,6}") ? text : null;
    }
}
