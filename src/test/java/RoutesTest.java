/** Promises 7 to 9: learn, forget, way. */
public final class RoutesTest {
    private static final int LEAST = Integer.MIN_VALUE;
    private static final int MOST = Integer.MAX_VALUE;

    public static void main(String[] args) {
        everyBeginning();
        longestPrefixFirst();
        leastHopsNext();
        leastAccountLast();
        newHops();
        notPrefixes();
        notAddresses();
        refusedRoutes();
        fortyRoutes();
        forgetting();
        forgettingEveryPlace();
        othersKeepTheirHops();
        Check.finish();
    }

    private static long text(String letters) {
        return Check.text(letters);
    }

    private static ValueConnector withAccounts(int count) {
        ValueConnector x = new ValueConnector(1, 100);
        for (int i = 0; i < count; i++) {
            x.account(-1000, 1000, 1);
        }
        return x;
    }

    private static void everyBeginning() {
        String[] prefixes = {"", "a", "ab", "abc", "abcz", "abczy", "abczyx"};
        for (String prefix : prefixes) {
            ValueConnector x = withAccounts(2);
            Check.due("learn " + prefix, x.learn(1, text(prefix), 1), true);
            for (String address : prefixes) {
                if (!address.isEmpty()) {
                    int want = address.startsWith(prefix) ? 1 : -1;
                    Check.due("way of " + address + " by " + prefix, x.way(text(address)), want);
                }
            }
            Check.due("way of q by " + prefix, x.way(text("q")), prefix.isEmpty() ? 1 : -1);
            Check.due("way of ba by " + prefix, x.way(text("ba")), prefix.isEmpty() ? 1 : -1);
            Check.due("way of abd by " + prefix, x.way(text("abd")), "abd".startsWith(prefix) ? 1 : -1);
        }
    }

    private static void longestPrefixFirst() {
        ValueConnector x = withAccounts(8);
        x.learn(3, text("abc"), 15);
        x.learn(1, text("a"), 1);
        x.learn(6, text("abcdef"), 15);
        x.learn(0, 0, 1);
        x.learn(2, text("ab"), 2);
        Check.due("way of z", x.way(text("z")), 0);
        Check.due("way of a", x.way(text("a")), 1);
        Check.due("way of az", x.way(text("az")), 1);
        Check.due("way of ab", x.way(text("ab")), 2);
        Check.due("way of abc", x.way(text("abc")), 3);
        Check.due("way of abcde", x.way(text("abcde")), 3);
        Check.due("way of abcdef", x.way(text("abcdef")), 6);
        Check.due("way of abcdeg", x.way(text("abcdeg")), 3);
    }

    private static void leastHopsNext() {
        ValueConnector x = withAccounts(4);
        x.learn(0, text("a"), 5);
        x.learn(1, text("a"), 4);
        x.learn(3, text("a"), 2);
        x.learn(2, text("a"), 3);
        Check.due("the least hops", x.way(text("ab")), 3);
        x.forget(3, text("a"));
        Check.due("the next", x.way(text("ab")), 2);
    }

    private static void leastAccountLast() {
        ValueConnector x = withAccounts(4);
        x.learn(3, text("a"), 2);
        Check.due("the only one", x.way(text("a")), 3);
        x.learn(1, text("a"), 2);
        Check.due("a lesser one", x.way(text("a")), 1);
        x.learn(2, text("a"), 2);
        Check.due("a greater one", x.way(text("a")), 1);
        x.learn(0, text("a"), 3);
        Check.due("more hops", x.way(text("a")), 1);
    }

    private static void newHops() {
        ValueConnector x = withAccounts(2);
        x.learn(0, text("a"), 3);
        x.learn(1, text("a"), 4);
        Check.due("before", x.way(text("a")), 0);
        Check.due("more hops for 0", x.learn(0, text("a"), 5), true);
        Check.due("after", x.way(text("a")), 1);
        Check.due("forget(0)", x.forget(0, text("a")), true);
        Check.due("there was only one", x.forget(0, text("a")), false);
    }

    private static void dueNoText(long value) {
        ValueConnector x = withAccounts(2);
        Check.due("learn " + value, x.learn(1, value, 1), false);
        Check.due("forget " + value, x.forget(1, value), false);
        x.learn(1, 0, 1);
        Check.due("way " + value, x.way(value), -1);
        Check.due("prepare " + value, x.prepare(0, value, 1, 50, 0), ValueConnector.MALFORMED);
    }

    private static void notPrefixes() {
        dueNoText(1);
        dueNoText(96);
        dueNoText(123);
        dueNoText(65);
        dueNoText(255);
        dueNoText(97 << 8);
        dueNoText(97L << 16 | 97);
        dueNoText(97L << 40 | 97);
        dueNoText(97L << 56);
        dueNoText(97L << 56 | text("abcdef"));
        dueNoText(text("abcdefg"));
        dueNoText(text("abcdefgh"));
        dueNoText(1L << 48 | text("abcdef"));
        dueNoText(text("abcde") | 96L << 40);
        dueNoText(text("abcde") | 123L << 40);
        dueNoText(text("a") | 1L << 63);
        dueNoText(text("abcdef") | 1L << 63);
        dueNoText(-1);
        dueNoText(Long.MIN_VALUE);
        dueNoText(Long.MAX_VALUE);
        dueNoText(353L);
    }

    private static void notAddresses() {
        ValueConnector x = withAccounts(2);
        x.learn(1, 0, 1);
        Check.due("way(0)", x.way(0), -1);
        Check.due("prepare to 0", x.prepare(0, 0, 1, 50, 0), ValueConnector.MALFORMED);
        Check.due("way(a)", x.way(97), 1);
        Check.due("way(z)", x.way(122), 1);
        Check.due("way(zzzzzz)", x.way(text("zzzzzz")), 1);
        Check.due("way(aaaaaa)", x.way(text("aaaaaa")), 1);
    }

    private static void refusedRoutes() {
        ValueConnector x = withAccounts(2);
        int[] wrongAccounts = {-1, 2, 7, 8, LEAST, MOST};
        for (int a : wrongAccounts) {
            Check.due("learn of account " + a, x.learn(a, 97, 1), false);
            Check.due("forget of account " + a, x.forget(a, 97), false);
        }
        int[] wrongHops = {0, -1, 16, LEAST, MOST};
        for (int hops : wrongHops) {
            Check.due("learn with hops " + hops, x.learn(0, 97, hops), false);
        }
        Check.due("none was made", x.way(97), -1);
        Check.due("hops 1", x.learn(0, 97, 1), true);
        Check.due("hops 15", x.learn(1, 97, 15), true);
        Check.due("hops 16 for one that is there", x.learn(0, 97, 16), false);
        Check.due("it has its hops", x.way(97), 0);
    }

    private static void fortyRoutes() {
        ValueConnector x = withAccounts(2);
        for (int i = 0; i < 40; i++) {
            Check.due("route " + i, x.learn(i / 26, 97 + i % 26, 5), true);
        }
        Check.due("the 41st", x.learn(1, text("z"), 1), false);
        Check.due("the 41st of another prefix", x.learn(0, 0, 1), false);
        Check.due("it was not made", x.way(text("z")), 0);
        Check.due("a 40th gets new hops", x.learn(1, text("a"), 4), true);
        Check.due("they count", x.way(text("a")), 1);
        Check.due("forget one", x.forget(0, text("c")), true);
        Check.due("room for one", x.learn(1, text("z"), 1), true);
        Check.due("it counts", x.way(text("z")), 1);
        Check.due("and no more", x.learn(0, 0, 1), false);
    }

    private static void forgetting() {
        ValueConnector x = withAccounts(3);
        x.learn(0, text("a"), 1);
        x.learn(1, text("ab"), 1);
        x.learn(2, 0, 1);
        Check.due("another account", x.forget(1, text("a")), false);
        Check.due("another prefix", x.forget(0, text("ab")), false);
        Check.due("nothing was forgotten", x.way(text("a")), 0);
        Check.due("the first", x.forget(0, text("a")), true);
        Check.due("the others stay", x.way(text("ab")), 1);
        Check.due("the shortest counts", x.way(text("a")), 2);
        Check.due("the first again", x.forget(0, text("a")), false);
        Check.due("of no letters", x.forget(2, 0), true);
        Check.due("none is left for a", x.way(text("a")), -1);
        Check.due("it is learnt again", x.learn(0, text("a"), 1), true);
        Check.due("and found again", x.way(text("a")), 0);
    }

    private static void forgettingEveryPlace() {
        for (int gone = 0; gone < 5; gone++) {
            ValueConnector x = withAccounts(5);
            for (int i = 0; i < 5; i++) {
                x.learn(i, 97 + i, i + 1);
            }
            Check.due("forget " + gone, x.forget(gone, 97 + gone), true);
            for (int i = 0; i < 5; i++) {
                Check.due("after " + gone + ": way of " + i, x.way(97 + i), i == gone ? -1 : i);
            }
        }
    }

    private static void othersKeepTheirHops() {
        for (int gone = 0; gone < 4; gone++) {
            ValueConnector x = withAccounts(6);
            for (int i = 0; i < 5; i++) {
                x.learn(i, 97 + i, 3 * i + 1);
            }
            x.forget(gone, 97 + gone);
            x.learn(5, Check.text("e"), 12);
            Check.due("after " + gone + ": 12 hops are fewer", x.way(Check.text("e")), 5);
            x.learn(5, Check.text("e"), 14);
            Check.due("after " + gone + ": 14 hops are more", x.way(Check.text("e")), 4);
        }
    }
}
