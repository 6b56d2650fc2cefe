/** Makes objects with sites in them. */
final class Plots {
    /** Sites as x, y and weight, one behind the other. */
    static PowerPlot of(int... numbers) {
        PowerPlot plot = new PowerPlot();
        for (int i = 0; i + 2 < numbers.length; i += 3) {
            plot.site(numbers[i], numbers[i + 1], numbers[i + 2]);
        }
        return plot;
    }
}
