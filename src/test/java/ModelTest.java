import java.lang.reflect.Method;
import java.util.ArrayList;
import java.util.List;

/** Long runs of calls, always the same ones, on the program and on the model: every answer must be the same. */
public final class ModelTest {
    /** Name, weight, and what each argument is like. */
    private static final String[][] CALLS = {
        {"one", "10", "kind", "v", "place"},
        {"of", "25", "person", "0..9"},
        {"set", "8", "person", "0..2", "setting"},
        {"leave", "4", "person", "yes"},
        {"walls", "6", "bits"},
        {"row", "6", "person", "0..4", "v"},
        {"feed", "2", "sign"},
        {"statute", "1"},
        {"told", "12", "0..8"},
        {"deed", "10", "place"},
        {"pass", "8", "days"},
        {"at", "20", "place", "0..4"},
        {"share", "8", "person", "place"},
        {"see", "10", "place", "0..21", "0..64"},
        {"wrong", "8"},
        {"from", "8", "person"},
        {"can", "8", "person", "0..2"},
        {"odds", "8", "place", "0..2"},
        {"mean", "4", "0..2"},
        {"plan", "10", "0..4", "place"},
        {"ends", "8", "0..2"},
        {"book", "6", "person", "setting"},
        {"looked", "6"},
        {"judge", "6", "0..6", "0..3"},
        {"image", "2"},
        {"undo", "2"},
        {"act", "8", "person", "0..3", "any"},
        {"trace", "8", "0..21"},
        {"taken", "6", "person", "0..7"},
        {"count", "8", "0..7"},
        {"tape", "6", "0..6", "0..5", "size"},
        {"item", "10", "0..6", "0..14", "long"},
        {"read", "8", "0..6", "0..14"},
        {"shift", "8", "0..6", "0..9", "0..6", "0..9", "0..9"},
    };
    private static final int RUNS = 400, CALLS_OF_A_RUN = 512;

    private static long seed;

    private static int below(int n) {
        seed = seed * 6364136223846793005L + 1442695040888963407L;
        return (int) ((seed >>> 33) % n);
    }

    public static void main(String[] args) throws Exception {
        Check c = new Check();
        List<Method> real = new ArrayList<>();
        List<Method> model = new ArrayList<>();
        List<String[]> forms = new ArrayList<>();
        for (String[] form : CALLS) {
            for (int i = 0; i < Integer.parseInt(form[1]); i++) {
                real.add(named(WitnessPays.class, form[0]));
                model.add(named(Model.class, form[0]));
                forms.add(form);
            }
        }
        for (int run = 0; run < RUNS; run++) {
            seed = run;
            WitnessPays x = new WitnessPays();
            Model m = new Model();
            StringBuilder story = new StringBuilder();
            boolean same = true;
            int left = CALLS_OF_A_RUN;
            int people = below(7);
            for (int i = 0; i < people; i++, left--) {
                int kind = below(7), v = below(10), place = below(12);
                c.due("one", x.one(kind, v, place), m.one(kind, v, place));
            }
            while (left > 0 && same) {
                if (below(60) == 0) {
                    String law = textOfALaw();
                    for (int i = 0; i < law.length(); i++) {
                        x.feed(law.charAt(i));
                        m.feed(law.charAt(i));
                    }
                    left -= law.length() + 1;
                    int got = x.statute(), want = m.statute();
                    story.append("law ").append(law).append(" = ").append(got).append('\n');
                    same = got == want;
                    c.due("run " + run + ": statute() of " + law, got, want);
                    continue;
                }
                int k = below(forms.size());
                Object[] values = values(forms.get(k), real.get(k).getParameterTypes());
                Object got = real.get(k).invoke(x, values);
                Object want = model.get(k).invoke(m, values);
                String call = forms.get(k)[0] + java.util.Arrays.toString(values);
                story.append(call).append(" = ").append(got).append('\n');
                same = got.equals(want);
                c.due("run " + run + ": " + call, ((Number) got).longValue(), ((Number) want).longValue());
                left--;
            }
            if (!same) {
                System.out.println(story);
                break;
            }
        }
        c.end("ModelTest");
    }

    private static Method named(Class<?> type, String name) {
        for (Method m : type.getDeclaredMethods()) {
            if (m.getName().equals(name) && java.lang.reflect.Modifier.isPublic(m.getModifiers())) {
                m.setAccessible(true);
                return m;
            }
        }
        throw new IllegalStateException(name);
    }

    private static Object[] values(String[] form, Class<?>[] types) {
        Object[] values = new Object[types.length];
        for (int i = 0; i < types.length; i++) {
            long n = value(form[i + 2]);
            if (types[i] == boolean.class) {
                values[i] = n != 0;
            } else if (types[i] == long.class) {
                values[i] = n;
            } else {
                values[i] = (int) n;
            }
        }
        return values;
    }

    private static long value(String like) {
        if (below(50) == 0) {
            long[] odd = {-1, -2, 12, 63, 64, 100, 4096, 10000, Integer.MAX_VALUE, Integer.MIN_VALUE};
            return odd[below(odd.length)];
        }
        switch (like) {
            case "kind": return below(7);
            case "v": return below(10);
            case "place": return below(12);
            case "person": return below(6);
            case "yes": return below(2);
            case "bits": return below(3) == 0 ? below(4096) : below(4096) & below(4096) & below(4096);
            case "sign": return below(128);
            case "setting": return below(2) == 0 ? below(12) : below(3) == 0 ? below(10000) : 10 * below(21);
            case "days": return below(4) == 0 ? below(61) : below(6);
            case "any": return below(2) == 0 ? below(20) - 10 : below(Integer.MAX_VALUE) * 3;
            case "long": return below(3) == 0 ? ((long) below(Integer.MAX_VALUE) << 32 | below(Integer.MAX_VALUE)) : below(2);
            case "size": return below(20) == 0 ? -below(3) : below(62) >> below(3);
            default: return below(Integer.parseInt(like.substring(3)) + 1);
        }
    }

    private static String textOfALaw() {
        StringBuilder s = new StringBuilder();
        int clauses = 1 + below(below(5) == 0 ? 10 : 4);
        for (int i = 0; i < clauses && s.length() < 70; i++) {
            if (i > 0) {
                s.append(';');
            }
            int word = below(5);
            int n = below(3) == 0 ? below(100) : below(6);
            s.append(word == 0 ? "fine " : word < 3 ? "far " : "near ");
            s.append(n < 10 && below(5) == 0 ? "0" : "").append(n);
            if (word != 0) {
                s.append(' ').append(expression(below(4)));
            }
        }
        // Some are spoilt: a sign comes, goes, or is another.
        if (below(3) == 0) {
            String signs = "farnei0123456789 ;|&!()pkvamd<=>x";
            int at = below(s.length());
            int how = below(4);
            if (how == 0) {
                s.deleteCharAt(at);
            } else if (how == 1) {
                s.insert(at, signs.charAt(below(signs.length())));
            } else if (how == 2) {
                s.setCharAt(at, signs.charAt(below(signs.length())));
            } else {
                s.setLength(at);
            }
        }
        return s.length() > 100 ? s.substring(0, 100) : s.toString();
    }

    private static String expression(int size) {
        int form = size == 0 ? 0 : below(6);
        switch (form) {
            case 1: return "!" + (below(2) == 0 ? "(" + expression(size - 1) + ")" : expression(0));
            case 2: return "(" + expression(size - 1) + ")";
            case 3:
            case 4: return expression(size - 1) + (form == 3 ? "|" : "&") + expression(size - 1);
            case 5: return "!!" + expression(0);
            default: {
                int letter = below(6);
                int[] most = {6, 7, 10, 12, 4, 10};
                return "" + "pkvamd".charAt(letter) + "<=>".charAt(below(3)) + below(most[letter]);
            }
        }
    }
}
