/**
 * What the tests of the edges ask with: each call goes to a house of its own, made by a recipe, so
 * that nothing that was let through or refused ahead of it can hide what it does.
 */
final class Edges {
    static final String INDEX = "IndexOutOfBoundsException";
    static final String ARGUMENT = "IllegalArgumentException";
    static final String STATE = "IllegalStateException";

    interface Recipe {
        OverrunHouse make();
    }

    interface Asking {
        double of(OverrunHouse house);
    }

    interface AskingOf {
        double of(OverrunHouse house, int value);
    }

    private final Check check;
    private final String name;
    private final Recipe recipe;

    Edges(Check check, String name, Recipe recipe) {
        this.check = check;
        this.name = name;
        this.recipe = recipe;
    }

    /** The call is let through, and answers that. */
    void answers(String call, double due, Asking asking) {
        check.same(name + ": " + call, said(recipe.make(), asking), Double.toString(due));
    }

    /** The call is let through, whatever it answers. */
    void goes(String call, Asking asking) {
        String said = said(recipe.make(), asking);
        check.same(name + ": " + call + " throws", said.startsWith("throws") ? said : "", "");
    }

    /** The call throws that, and changes nothing. */
    void refuses(String call, String due, Asking asking) {
        OverrunHouse house = recipe.make();
        check.same(name + ": " + call, said(house, asking), "throws " + due);
        unchanged(call, house);
    }

    /** The call answers that, and changes nothing. */
    void keeps(String call, double due, Asking asking) {
        OverrunHouse house = recipe.make();
        check.same(name + ": " + call, said(house, asking), Double.toString(due));
        unchanged(call, house);
    }

    /** What lies from low to high is let through at its ends; the next and the farthest are not. */
    void range(String call, int low, int high, String due, AskingOf asking) {
        goes(call + ": " + low, h -> asking.of(h, low));
        goes(call + ": " + high, h -> asking.of(h, high));
        int[] outside = {low - 1, high + 1, Integer.MIN_VALUE, Integer.MAX_VALUE};
        for (int value : outside) {
            refuses(call + ": " + value, due, h -> asking.of(h, value));
        }
    }

    private void unchanged(String call, OverrunHouse house) {
        String due = LastLook.of(recipe.make());
        check.same(name + ": behind " + call, LastLook.of(house), due);
    }

    private static String said(OverrunHouse house, Asking asking) {
        try {
            return Double.toString(asking.of(house));
        } catch (RuntimeException e) {
            return "throws " + e.getClass().getSimpleName();
        }
    }
}
