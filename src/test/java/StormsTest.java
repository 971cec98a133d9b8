import java.math.BigInteger;

/** Promises 35 to 38: storms by lots, images. */
public final class StormsTest {
    private static final Due DUE = new Due("StormsTest");
    private static final int MIN = Integer.MIN_VALUE, MAX = Integer.MAX_VALUE;

    public static void main(String[] args) {
        drawn();
        drawnRefuses();
        odds();
        oddsRefuses();
        image();
        imageOfCasks();
        imagesFollow();
        DUE.end();
    }

    private static long nextLot(long lot) {
        return BigInteger.valueOf(lot).multiply(BigInteger.valueOf(48271))
            .mod(BigInteger.valueOf(2147483647)).longValueExact();
    }

    /** Weather behind a storm under a law by which all fades by 3. */
    private static int[] storm(int seed, int[] sky) {
        int[] weather = sky.clone();
        long lot = seed + 1;
        for (int hour = 0; hour < 8; hour++) {
            lot = nextLot(lot);
            int t = (int) (lot % 6);
            lot = nextLot(lot);
            weather[t] = Math.min(99, weather[t] + (int) (lot % 30));
            for (int u = 0; u < 6; u++) {
                weather[u] = Math.max(0, weather[u] - 3);
            }
        }
        return weather;
    }

    private static int main(int[] weather) {
        int main = -1;
        for (int t = 5; t >= 0; t--) {
            if (weather[t] > 0 && (main < 0 || weather[t] >= weather[main])) {
                main = t;
            }
        }
        return main;
    }

    private static void drawn() {
        SalvageOfDays x = new SalvageOfDays();
        int[] sky = {0, 0, 0, 0, 0, 0};
        for (int round = 0; round < 2; round++) {
            for (int seed : new int[] {0, 1, 2, 3, 7, 44, 500, 777, 50000, 99998, 99999}) {
                int[] then = storm(seed, sky);
                DUE.is("35 main by " + seed, x.drawn(seed, 0), main(then));
                int fair = then[0] + then[3] - then[2] - 2 * then[5];
                DUE.is("35 fair by " + seed, x.drawn(seed, 1), fair);
            }
            for (int t = 0; t < 6; t++) {
                DUE.is("35 in thought", x.bay(t), sky[t]);
                sky[t] = 98 - 9 * t;
                x.sky(t, sky[t]);
            }
        }
        DUE.is("35 in thought", x.count(3), 0);
        SalvageOfDays y = Due.under("reaches 0;costs 0;fades 99;");
        DUE.is("35 no main", y.drawn(5, 0), -1);
        DUE.is("35 fair", y.drawn(5, 1), 0);
    }

    private static void drawnRefuses() {
        SalvageOfDays x = new SalvageOfDays();
        for (int seed : new int[] {-1, 100000, MIN, MAX}) {
            DUE.is("35 seed", x.drawn(seed, 0), -1000);
        }
        for (int what : new int[] {-1, 2, MIN, MAX}) {
            DUE.is("35 what", x.drawn(0, what), -1000);
        }
    }

    private static void odds() {
        SalvageOfDays x = new SalvageOfDays();
        int[] none = new int[6];
        for (int seed : new int[] {0, 5, 99980, 99999}) {
            for (int seeds : new int[] {1, 12, 30, 40}) {
                for (int t = 0; t < 6; t++) {
                    int times = 0;
                    for (int i = 0; i < seeds; i++) {
                        times += main(storm(seed + i, none)) == t ? 1 : 0;
                    }
                    int divisor = BigInteger.valueOf(times).gcd(BigInteger.valueOf(seeds)).intValue();
                    String call = seed + ", " + seeds + ", " + t;
                    DUE.is("36 above, " + call, x.odds(seed, seeds, t, 0), times / divisor);
                    DUE.is("36 below, " + call, x.odds(seed, seeds, t, 1), seeds / divisor);
                }
            }
        }
        SalvageOfDays y = Due.under("reaches 0;costs 0;fades 99;");
        DUE.is("36 never, above", y.odds(0, 7, 0, 0), 0);
        DUE.is("36 never, below", y.odds(0, 7, 0, 1), 1);
    }

    private static void oddsRefuses() {
        SalvageOfDays x = new SalvageOfDays();
        long no = SalvageOfDays.NO;
        for (int seed : new int[] {-1, 100000, MIN, MAX}) {
            DUE.is("36 seed", x.odds(seed, 1, 0, 0), no);
        }
        for (int seeds : new int[] {-1, 0, 41, MIN, MAX}) {
            DUE.is("36 seeds", x.odds(0, seeds, 0, 0), no);
        }
        for (int t : new int[] {-1, 6, MIN, MAX}) {
            DUE.is("36 sort", x.odds(0, 1, t, 0), no);
        }
        for (int part : new int[] {-1, 2, MIN, MAX}) {
            DUE.is("36 part", x.odds(0, 1, 0, part), no);
        }
    }

    private static void image() {
        SalvageOfDays x = new SalvageOfDays();
        DUE.is("38 there is none", x.back(), SalvageOfDays.STATE);
        Due.text(x, "reaches breath;costs 1;fades 2;");
        x.diver(25, 40);
        x.diver(0, 50);
        x.dive(1, 2);
        x.sky(2, 33);
        x.sky(6, 12);
        DUE.is("37 how many divers", x.image(), 2);
        String before = Due.all(x);
        x.force(1);
        x.diver(59, 9);
        x.dive(0, 3);
        x.open(2);
        x.hour();
        x.put(1, 0);
        DUE.isTrue("37 all else goes on", !before.equals(Due.all(x)));
        DUE.is("38 how many divers", x.back(), 2);
        DUE.isTrue("38 all as it was", before.equals(Due.all(x)));
        DUE.is("38 who came since is none", x.told(2, 0), -5);
        DUE.is("38 the next one is new", x.diver(11, 3), 2);
        DUE.is("38 the next one is new", x.told(2, 2), 1);
        DUE.is("38 it brings one", x.dive(2, 0), 3);
        x.back();
        DUE.is("38 and one more is new", x.diver(11, 3), 2);
        DUE.is("38 the next one brought none", x.told(2, 1), 0);
        DUE.is("38 again", x.back(), 2);
        DUE.isTrue("38 all as it was", before.equals(Due.all(x)));
    }

    private static void imageOfCasks() {
        SalvageOfDays x = new SalvageOfDays();
        x.image();
        for (int k = 0; k < 12; k++) {
            x.cask(k, 0, 5 - k % 6);
            x.cask(k, 1, 50 + k);
            x.cask(k, 2, 60 + k);
            x.cask(k, 3, 1 + k % 2);
        }
        for (int t = 0; t < 6; t++) {
            x.sky(t, 10 + t);
        }
        Due.text(x, "reaches 1;costs 1;fades 1;");
        Due.feed(x, "fed");
        Due.sheet(x, 0, 1, 2, 3);
        DUE.is("38 no divers", x.back(), 0);
        for (int k = 0; k < 12; k++) {
            DUE.is("38 sort", x.lies(k, 0), k % 6);
            DUE.is("38 strong", x.lies(k, 1), 20);
            DUE.is("38 deep", x.lies(k, 2), 3 * k);
            DUE.is("38 place", x.lies(k, 3), 0);
        }
        DUE.is("38 no weather", x.bay(6), -1);
        DUE.is("38 texts are not kept", x.count(4), 2);
        DUE.is("38 the tape is not kept", x.count(6), 3);
        DUE.is("38 sheets are not kept", x.cell(0, 2, 0), 1);
    }

    private static void imagesFollow() {
        SalvageOfDays x = new SalvageOfDays();
        x.sky(0, 1);
        x.image();
        x.sky(0, 2);
        x.diver(0, 5);
        DUE.is("37 a further one", x.image(), 1);
        x.sky(0, 3);
        x.run(5, 0);
        x.drawn(5, 0);
        DUE.is("38 the last one", x.back(), 1);
        DUE.is("38 the last one", x.bay(0), 2);
        x.sky(0, 77);
        DUE.is("38 what goes on is no image", x.back(), 1);
        DUE.is("38 what goes on is no image", x.bay(0), 2);
    }
}
