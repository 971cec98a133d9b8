import java.util.ArrayList;
import java.util.List;

/** The model's bay: all that an image keeps. What is done in thought is done to a copy. */
final class ModelBay {
    static final class Cask {
        int sort, strong = 20, deep, place;

        Cask(int k) {
            sort = k % 6;
            deep = 3 * k;
        }

        Cask(Cask other) {
            sort = other.sort;
            strong = other.strong;
            deep = other.deep;
            place = other.place;
        }
    }

    /** A DIVER, and what the KINDS below make of one. */
    static class Diver {
        int kind, more, breath, brought;

        int reaches(int said) {
            return said;
        }

        int costs(int said, int sort, int hour) {
            return said;
        }

        int breathes() {
            return 5;
        }
    }

    static class Boy extends Diver {
        @Override int reaches(int said) {
            return said / 2 + more;
        }

        @Override int breathes() {
            return 2 * super.breathes();
        }
    }

    static class Master extends Diver {
        @Override int reaches(int said) {
            return super.reaches(said) + 10;
        }

        @Override int costs(int said, int sort, int hour) {
            return sort == 0 ? said / 2 : said + more;
        }
    }

    static class Mate extends Boy {
        @Override int reaches(int said) {
            return super.reaches(said) + more;
        }

        @Override int costs(int said, int sort, int hour) {
            return hour % 4 == 0 ? 0 : super.costs(said, sort, hour);
        }
    }

    static class Widow extends Master {
        @Override int reaches(int said) {
            return more;
        }

        @Override int breathes() {
            return super.breathes() + more;
        }
    }

    static class Drowned extends Diver {
        @Override int reaches(int said) {
            return 99;
        }

        @Override int breathes() {
            return 0;
        }
    }

    static Diver diver(int kind, int more, int breath, int brought) {
        Diver one = List.of(new Diver(), new Boy(), new Master(), new Mate(), new Widow(),
            new Drowned()).get(kind);
        one.kind = kind;
        one.more = more;
        one.breath = breath;
        one.brought = brought;
        return one;
    }

    final int[] sky = new int[6];
    int hour;
    final List<Cask> casks = new ArrayList<>();
    final List<Diver> divers = new ArrayList<>();
    int law;
    private final List<ModelLaw> laws;

    ModelBay(List<ModelLaw> laws) {
        this.laws = laws;
        for (int k = 0; k < 12; k++) {
            casks.add(new Cask(k));
        }
    }

    ModelBay copied() {
        ModelBay copy = new ModelBay(laws);
        System.arraycopy(sky, 0, copy.sky, 0, 6);
        copy.hour = hour;
        copy.law = law;
        copy.casks.clear();
        for (Cask cask : casks) {
            copy.casks.add(new Cask(cask));
        }
        for (Diver one : divers) {
            copy.divers.add(diver(one.kind, one.more, one.breath, one.brought));
        }
        return copy;
    }

    int says(int part, int p, int k) {
        Diver one = divers.get(p);
        Cask cask = casks.get(k);
        return laws.get(law).says(part, one.breath, cask.deep, cask.strong, cask.sort, hour,
            one.more);
    }

    int fades(int t) {
        return laws.get(law).says(2, 0, 0, sky[t], t, hour, 0);
    }

    int reach(int p, int k) {
        return divers.get(p).reaches(says(0, p, k));
    }

    int cost(int p, int k) {
        return divers.get(p).costs(says(1, p, k), casks.get(k).sort, hour);
    }

    boolean can(int p, int k) {
        return casks.get(k).place == 0 && reach(p, k) >= casks.get(k).deep
            && cost(p, k) <= divers.get(p).breath;
    }

    int canBits(int p) {
        int bits = 0;
        for (int k = 0; k < 12; k++) {
            bits += can(p, k) ? 1 << k : 0;
        }
        return bits;
    }

    int quay() {
        int bits = 0;
        for (int k = 0; k < 12; k++) {
            bits += casks.get(k).place == 1 ? 1 << k : 0;
        }
        return bits;
    }

    void dive(int p, int k) {
        divers.get(p).breath -= cost(p, k);
        divers.get(p).brought++;
        casks.get(k).place = 1;
    }

    void open(int k) {
        Cask cask = casks.get(k);
        sky[cask.sort] = Math.min(99, sky[cask.sort] + cask.strong);
        cask.place = 2;
    }

    void hour() {
        for (int t = 0; t < 6; t++) {
            sky[t] = Math.max(0, sky[t] - fades(t));
        }
        for (Diver one : divers) {
            one.breath = Math.min(99, one.breath + one.breathes());
        }
        hour++;
    }

    ModelBay hours(int n) {
        for (int i = 0; i < n; i++) {
            hour();
        }
        return this;
    }

    int row(int[] told, int p) {
        int brings = 0;
        for (int k : told) {
            if (can(p, k)) {
                dive(p, k);
                brings++;
            } else {
                hour();
            }
        }
        return brings;
    }

    int main() {
        int main = 0;
        for (int t = 1; t < 6; t++) {
            main = sky[t] > sky[main] ? t : main;
        }
        return sky[main] == 0 ? -1 : main;
    }

    int fair() {
        return sky[0] + sky[3] - sky[2] - 2 * sky[5];
    }

    int tells(int what) {
        return what < 6 ? sky[what] : what == 6 ? main() : fair();
    }

    /** The first number that is otherwise, of a copy that goes on by itself. */
    int judged(int[] told, int t) {
        ModelBay then = copied();
        for (int i = 0; i < told.length; i++) {
            then.hour();
            if (then.sky[t] != told[i]) {
                return i;
            }
        }
        return -1;
    }

    boolean isSo(int[] told, int p) {
        for (int k = 0; k < told.length; k++) {
            if (told[k] != (can(p, k) ? 1 : 0)) {
                return false;
            }
        }
        return true;
    }

    ModelBay storm(int seed) {
        long lot = seed + 1;
        for (int i = 0; i < 8; i++) {
            lot = lot * 48271 % 2147483647;
            int t = (int) (lot % 6);
            lot = lot * 48271 % 2147483647;
            sky[t] = Math.min(99, sky[t] + (int) (lot % 30));
            hour();
        }
        return this;
    }
}
