/** Promises 7 to 9: learn, forget, way; addresses and prefixes. */
public final class RoutesTest {
    private static final int LEAST = Integer.MIN_VALUE;
    private static final int MOST = Integer.MAX_VALUE;
    private static final long[] NO_TEXTS = {
        1, 96, 123, 255, 97L << 8, text("a") | 97L << 16, text("abcdefg"), text("abcdef") | 1L << 63, -1,
        Long.MIN_VALUE, Long.MAX_VALUE
    };

    public static void main(String[] args) {
        oneToSixLetters();
        codesOfLetters();
        firstInTheLowestByte();
        bytesAbove();
        prefixOfNoLetters();
        everyBeginning();
        longestPrefix();
        leastHops();
        leastNumber();
        learning();
        newHops();
        learnOfNoAccount();
        learnOfNoPrefix();
        hopsEdges();
        fortyRoutes();
        forgettingMakesRoom();
        forgetting();
        forgettingEveryPlace();
        othersKeepTheirHops();
        forgettingNone();
        wayOfNoAddress();
        noWay();
        Check.finish();
    }

    private static long text(String letters) {
        return Check.text(letters);
    }

    private static ValueConnector withAccounts(int count) {
        ValueConnector x = new ValueConnector(1, 100);
        for (int i = 0; i < count; i++) {
            x.account(-1000, 1000, 1);
        }
        return x;
    }

    /** Whether it is taken wherever the document asks for an address or a prefix. */
    private static void dueAddress(long value, boolean isAddress) {
        ValueConnector x = withAccounts(2);
        x.learn(1, 0, 1);
        Check.due("way(" + value + ")", x.way(value), isAddress ? 1 : -1);
        Check.due("prepare to " + value, x.prepare(0, value, 1, 50, 0), isAddress ? 0 : ValueConnector.MALFORMED);
        Check.due("learn of " + value, x.learn(0, value, 1), isAddress);
        Check.due("forget of " + value, x.forget(0, value), isAddress);
    }

    private static void oneToSixLetters() {
        Check.sentence("An ADDRESS is a long with one to six letters");
        for (String letter : new String[] {"a", "m", "z"}) {
            for (int length = 1; length <= 8; length++) {
                dueAddress(text(letter.repeat(length)), length <= 6);
            }
        }
        ValueConnector x = withAccounts(2);
        x.learn(1, 0, 1);
        Check.due("way of no letters", x.way(0), -1);
        Check.due("prepare to no letters", x.prepare(0, 0, 1, 50, 0), ValueConnector.MALFORMED);
    }

    private static void codesOfLetters() {
        Check.sentence("a .. z (codes 97 .. 122)");
        for (int length = 1; length <= 6; length++) {
            long others = text("mmmmmm".substring(0, length));
            for (int place = 0; place < length; place++) {
                long hole = others & ~(255L << 8 * place);
                for (int code : new int[] {97, 98, 121, 122}) {
                    dueAddress(hole | (long) code << 8 * place, true);
                }
                for (int code : new int[] {1, 32, 65, 90, 96, 123, 128, 225, 255}) {
                    dueAddress(hole | (long) code << 8 * place, false);
                }
                if (place < length - 1) {
                    dueAddress(hole, false);
                }
            }
        }
    }

    private static void firstInTheLowestByte() {
        Check.sentence("in its lowest bytes, the first in the lowest one");
        ValueConnector x = withAccounts(2);
        x.learn(0, 'a', 1);
        x.learn(1, 'b', 1);
        Check.due("ab begins with a", x.way('a' | 'b' << 8), 0);
        Check.due("ba begins with b", x.way('b' | 'a' << 8), 1);
        for (int empty = 1; empty < 8; empty++) {
            dueAddress((long) 'a' << 8 * empty, false);
        }
    }

    private static void bytesAbove() {
        Check.sentence("and 0 in the bytes above");
        for (int length = 1; length <= 6; length++) {
            long letters = text("abcdef".substring(0, length));
            dueAddress(letters, true);
            for (int place = length; place < 8; place++) {
                for (int code : new int[] {1, 128, 255}) {
                    dueAddress(letters | (long) code << 8 * place, false);
                }
                boolean isLonger = place == length && length < 6;
                dueAddress(letters | 97L << 8 * place, isLonger);
            }
        }
    }

    private static void prefixOfNoLetters() {
        Check.sentence("A PREFIX is an address, or 0, which is of no letters");
        ValueConnector x = withAccounts(2);
        Check.due("learn of no letters", x.learn(1, 0, 1), true);
        Check.due("way of a", x.way(text("a")), 1);
        Check.due("way of zzzzzz", x.way(text("zzzzzz")), 1);
        Check.due("forget of no letters", x.forget(1, 0), true);
        Check.due("way of a without it", x.way(text("a")), -1);
    }

    private static void everyBeginning() {
        Check.sentence("of the routes whose prefix is a beginning of it (all its letters, or fewer)");
        String[] prefixes = {"", "a", "ab", "abc", "abcz", "abczy", "abczyx"};
        String[] others = {"q", "ba", "abd", "aab", "bbczyx", "abczyy", "abczxx", "azczyx", "b"};
        for (String prefix : prefixes) {
            ValueConnector x = withAccounts(2);
            Check.due("learn " + prefix, x.learn(1, text(prefix), 1), true);
            for (int i = 1; i < prefixes.length; i++) {
                dueWay(x, prefix, prefixes[i]);
            }
            for (String other : others) {
                dueWay(x, prefix, other);
            }
        }
    }

    private static void dueWay(ValueConnector x, String prefix, String address) {
        int want = address.startsWith(prefix) ? 1 : -1;
        Check.due("way of " + address + " by " + prefix, x.way(text(address)), want);
    }

    private static void longestPrefix() {
        Check.sentence("with the longest prefix");
        ValueConnector x = withAccounts(8);
        x.learn(3, text("abc"), 15);
        x.learn(1, text("a"), 1);
        x.learn(6, text("abcdef"), 15);
        x.learn(0, 0, 1);
        x.learn(2, text("ab"), 2);
        Check.due("way of z", x.way(text("z")), 0);
        Check.due("way of a", x.way(text("a")), 1);
        Check.due("way of az", x.way(text("az")), 1);
        Check.due("way of ab", x.way(text("ab")), 2);
        Check.due("way of abc", x.way(text("abc")), 3);
        Check.due("way of abcde", x.way(text("abcde")), 3);
        Check.due("way of abcdef", x.way(text("abcdef")), 6);
        Check.due("way of abcdeg", x.way(text("abcdeg")), 3);
    }

    private static void leastHops() {
        Check.sentence("of these the one with the least hops");
        ValueConnector x = withAccounts(4);
        x.learn(0, text("a"), 5);
        x.learn(1, text("a"), 4);
        x.learn(3, text("a"), 2);
        x.learn(2, text("a"), 3);
        Check.due("the least", x.way(text("ab")), 3);
        x.forget(3, text("a"));
        Check.due("the next", x.way(text("ab")), 2);
        x.learn(0, 0, 1);
        Check.due("not those of a shorter prefix", x.way(text("ab")), 2);
    }

    private static void leastNumber() {
        Check.sentence("of equal ones that of the account with the least number");
        ValueConnector x = withAccounts(4);
        x.learn(3, text("a"), 2);
        Check.due("the only one", x.way(text("a")), 3);
        x.learn(1, text("a"), 2);
        Check.due("a lesser one", x.way(text("a")), 1);
        x.learn(2, text("a"), 2);
        Check.due("a greater one", x.way(text("a")), 1);
        x.learn(0, text("a"), 3);
        Check.due("more hops", x.way(text("a")), 1);
        x.learn(0, text("a"), 2);
        Check.due("as many", x.way(text("a")), 0);
    }

    private static void learning() {
        Check.sentence("Makes a route of an account and a prefix");
        ValueConnector x = withAccounts(2);
        Check.due("of 0", x.learn(0, text("a"), 2), true);
        Check.due("of 1, the same prefix", x.learn(1, text("a"), 3), true);
        Check.due("of 1, another prefix", x.learn(1, text("ab"), 3), true);
        Check.due("way of a", x.way(text("a")), 0);
        Check.due("way of ab", x.way(text("ab")), 1);
        Check.due("each is there", x.forget(0, text("a")), true);
        Check.due("each by itself", x.way(text("a")), 1);
    }

    private static void newHops() {
        Check.sentence("or gives the one that is there new hops");
        ValueConnector x = withAccounts(2);
        x.learn(0, text("a"), 3);
        x.learn(1, text("a"), 4);
        Check.due("before", x.way(text("a")), 0);
        Check.due("more hops for 0", x.learn(0, text("a"), 5), true);
        Check.due("after", x.way(text("a")), 1);
        Check.due("fewer hops for 0", x.learn(0, text("a"), 4), true);
        Check.due("after that", x.way(text("a")), 0);
        Check.due("forget(0)", x.forget(0, text("a")), true);
        Check.due("there was only one", x.forget(0, text("a")), false);
    }

    private static void learnOfNoAccount() {
        Check.sentence("False when there is no such account");
        for (int a : Past.NO_ACCOUNTS) {
            Refusal.isFalse("learn(" + a + ", b, 1)", x -> x.learn(a, text("b"), 1));
        }
        Check.due("of the first account", Past.busy().learn(0, text("b"), 1), true);
        Check.due("of the last account", Past.busy().learn(Past.ACCOUNTS - 1, text("b"), 1), true);
    }

    private static void learnOfNoPrefix() {
        Check.sentence("it is no prefix");
        for (long value : NO_TEXTS) {
            Refusal.isFalse("learn(1, " + value + ", 1)", x -> x.learn(1, value, 1));
        }
        Check.due("six letters", Past.busy().learn(1, text("zzzzzz"), 1), true);
        Check.due("no letters", Past.busy().learn(1, 0, 1), true);
    }

    private static void hopsEdges() {
        Check.sentence("hops is not 1 .. 15");
        ValueConnector x = withAccounts(3);
        Check.due("15 hops", x.learn(0, text("a"), 15), true);
        Check.due("14 hops", x.learn(1, text("a"), 14), true);
        Check.due("14 are fewer", x.way(text("a")), 1);
        Check.due("1 hop", x.learn(2, text("a"), 1), true);
        Check.due("2 hops", x.learn(1, text("a"), 2), true);
        Check.due("1 is fewer", x.way(text("a")), 2);
        for (int hops : new int[] {0, -1, 16, LEAST, MOST}) {
            Refusal.isFalse("a new route, hops " + hops, y -> y.learn(0, text("c"), hops));
            Refusal.isFalse("one that is there, hops " + hops, y -> y.learn(1, text("b"), hops));
        }
    }

    private static void fortyRoutes() {
        Check.sentence("or it would be the 41st");
        ValueConnector x = withAccounts(2);
        for (int i = 0; i < 40; i++) {
            Check.due("route " + i, x.learn(i / 26, 97 + i % 26, 5), true);
        }
        Check.due("the 41st", x.learn(1, text("z"), 1), false);
        Check.due("it was not made", x.way(text("z")), 0);
        for (int i = 0; i < 40; i++) {
            Check.due("new hops for route " + i, x.learn(i / 26, 97 + i % 26, 4 - i / 26), true);
        }
        Check.due("they count", x.way(text("a")), 1);
        Refusal.is(0, "the 41st, of no letters", Past::fortyRoutes, y -> y.learn(0, 0, 1) ? 1 : 0);
        Refusal.is(0, "the 41st, of another account", Past::fortyRoutes, y -> y.learn(0, text("b"), 1) ? 1 : 0);
        Refusal.is(0, "the 41st, of a new prefix", Past::fortyRoutes, y -> y.learn(2, text("zz"), 1) ? 1 : 0);
    }

    private static void forgettingMakesRoom() {
        Check.sentence("a route is of an account and a prefix and has HOPS; at most 40");
        ValueConnector x = Past.fortyRoutes();
        Check.due("no room", x.learn(2, text("zz"), 1), false);
        Check.due("forget one", x.forget(1, text("b")), true);
        Check.due("room for one", x.learn(2, text("zz"), 1), true);
        Check.due("it counts", x.way(text("zza")), 2);
        Check.due("and no more", x.learn(1, text("b"), 1), false);
    }

    private static void forgetting() {
        Check.sentence("Takes a route away");
        ValueConnector x = withAccounts(3);
        x.learn(0, text("a"), 1);
        x.learn(1, text("ab"), 1);
        x.learn(2, 0, 1);
        Check.due("the first", x.forget(0, text("a")), true);
        Check.due("the others stay", x.way(text("ab")), 1);
        Check.due("the shortest counts", x.way(text("a")), 2);
        Check.due("of no letters", x.forget(2, 0), true);
        Check.due("none is left for a", x.way(text("a")), -1);
        Check.due("it is learnt again", x.learn(0, text("a"), 1), true);
        Check.due("and found again", x.way(text("a")), 0);
    }

    private static void forgettingEveryPlace() {
        Check.sentence("Takes a route away");
        for (int gone = 0; gone < 5; gone++) {
            ValueConnector x = withAccounts(5);
            for (int i = 0; i < 5; i++) {
                x.learn(i, 97 + i, i + 1);
            }
            Check.due("forget " + gone, x.forget(gone, 97 + gone), true);
            for (int i = 0; i < 5; i++) {
                Check.due("after " + gone + ": way of " + i, x.way(97 + i), i == gone ? -1 : i);
            }
        }
    }

    private static void othersKeepTheirHops() {
        Check.sentence("Takes a route away");
        for (int gone = 0; gone < 4; gone++) {
            ValueConnector x = withAccounts(6);
            for (int i = 0; i < 5; i++) {
                x.learn(i, 97 + i, 3 * i + 1);
            }
            x.forget(gone, 97 + gone);
            x.learn(5, text("e"), 12);
            Check.due("after " + gone + ": 12 hops are fewer", x.way(text("e")), 5);
            x.learn(5, text("e"), 14);
            Check.due("after " + gone + ": 14 hops are more", x.way(text("e")), 4);
        }
    }

    private static void forgettingNone() {
        Check.sentence("false when there is none of that account and prefix");
        Check.due("there is one", Past.busy().forget(1, text("b")), true);
        for (int a : Past.NO_ACCOUNTS) {
            Refusal.isFalse("forget(" + a + ", b)", x -> x.forget(a, text("b")));
        }
        for (long value : NO_TEXTS) {
            Refusal.isFalse("forget(1, " + value + ")", x -> x.forget(1, value));
        }
        Refusal.isFalse("another account's", x -> x.forget(0, text("b")));
        Refusal.isFalse("a longer prefix", x -> x.forget(1, text("bo")));
        Refusal.isFalse("a shorter prefix", x -> x.forget(2, text("b")));
        Refusal.isFalse("of no letters", x -> x.forget(0, 0));
        Check.due("where there are no routes", withAccounts(1).forget(0, 0), false);
        Refusal.is(0, "one that was forgotten", RoutesTest::withoutB, x -> x.forget(1, text("b")) ? 1 : 0);
    }

    private static ValueConnector withoutB() {
        ValueConnector x = Past.busy();
        x.forget(1, text("b"));
        return x;
    }

    private static void wayOfNoAddress() {
        Check.sentence("NONE when it is no address");
        for (long value : NO_TEXTS) {
            Refusal.is(-1, "way(" + value + ")", x -> x.way(value));
        }
        Refusal.is(-1, "way(0)", x -> x.way(0));
        Check.due("an address", Past.busy().way(text("zzzzzz")), 1);
    }

    private static void noWay() {
        Check.sentence("NONE when it is no address or has none");
        ValueConnector x = withAccounts(2);
        Check.due("no routes", x.way(text("ab")), -1);
        x.learn(1, text("abc"), 1);
        Check.due("a longer prefix", x.way(text("ab")), -1);
        x.learn(1, text("b"), 1);
        Check.due("another prefix", x.way(text("ab")), -1);
        x.learn(1, text("ab"), 1);
        Check.due("its own", x.way(text("ab")), 1);
        x.forget(1, text("ab"));
        Check.due("forgotten", x.way(text("ab")), -1);
    }
}
